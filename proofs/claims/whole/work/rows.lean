section
/-- a private method of a class that the tables say can be made, by its rows of tables_1 -/
def lw_okq (q : MethodName × Nat) : Prop := (q.1.cls ≠ "java/lang/invoke/MethodHandle" ∧ q.1.cls ≠ "java/lang/invoke/VarHandle") ∧ Cond.instantiable q.1.cls q.2 ∈ tables_1 ∧ Cond.privateMethod q.1 ∈ tables_1 ∧ Cond.instanceMethod q.1 ∈ tables_1
theorem lw_p0 : lw_okq (⟨"FencedCode$Program", "targetOf", "(I)I"⟩, 8) := ⟨⟨by decide +kernel, by decide +kernel⟩, List.mem_of_getElem? (i := 24) (by decide +kernel), List.mem_of_getElem? (i := 320) (by decide +kernel), List.mem_of_getElem? (i := 321) (by decide +kernel)⟩
theorem lw_p1 : lw_okq (⟨"FencedCode$Rewriter", "pad", "(I)V"⟩, 3) := ⟨⟨by decide +kernel, by decide +kernel⟩, List.mem_of_getElem? (i := 80) (by decide +kernel), List.mem_of_getElem? (i := 387) (by decide +kernel), List.mem_of_getElem? (i := 388) (by decide +kernel)⟩
theorem lw_p2 : lw_okq (⟨"FencedCode$Rewriter", "write", "(IIII)V"⟩, 3) := ⟨⟨by decide +kernel, by decide +kernel⟩, List.mem_of_getElem? (i := 80) (by decide +kernel), List.mem_of_getElem? (i := 391) (by decide +kernel), List.mem_of_getElem? (i := 392) (by decide +kernel)⟩
theorem lw_p3 : lw_okq (⟨"FencedCode$Code", "has", "(I)Z"⟩, 2) := ⟨⟨by decide +kernel, by decide +kernel⟩, List.mem_of_getElem? (i := 64) (by decide +kernel), List.mem_of_getElem? (i := 403) (by decide +kernel), List.mem_of_getElem? (i := 404) (by decide +kernel)⟩
theorem lw_p4 : lw_okq (⟨"FencedCode$Rewriter", "writeLine", "(IIII)V"⟩, 3) := ⟨⟨by decide +kernel, by decide +kernel⟩, List.mem_of_getElem? (i := 80) (by decide +kernel), List.mem_of_getElem? (i := 415) (by decide +kernel), List.mem_of_getElem? (i := 416) (by decide +kernel)⟩
theorem lw_p5 : lw_okq (⟨"FencedCode$Checker", "firstBroken", "()I"⟩, 4) := ⟨⟨by decide +kernel, by decide +kernel⟩, List.mem_of_getElem? (i := 96) (by decide +kernel), List.mem_of_getElem? (i := 450) (by decide +kernel), List.mem_of_getElem? (i := 451) (by decide +kernel)⟩
theorem lw_p6 : lw_okq (⟨"FencedCode$Checker", "firstUnsafe", "()I"⟩, 4) := ⟨⟨by decide +kernel, by decide +kernel⟩, List.mem_of_getElem? (i := 96) (by decide +kernel), List.mem_of_getElem? (i := 461) (by decide +kernel), List.mem_of_getElem? (i := 462) (by decide +kernel)⟩
theorem lw_p7 : lw_okq (⟨"FencedCode$Checker", "begunAt", "(I)I"⟩, 4) := ⟨⟨by decide +kernel, by decide +kernel⟩, List.mem_of_getElem? (i := 96) (by decide +kernel), List.mem_of_getElem? (i := 465) (by decide +kernel), List.mem_of_getElem? (i := 466) (by decide +kernel)⟩
theorem lw_p8 : lw_okq (⟨"FencedCode$Checker", "isSafe", "(II)Z"⟩, 4) := ⟨⟨by decide +kernel, by decide +kernel⟩, List.mem_of_getElem? (i := 96) (by decide +kernel), List.mem_of_getElem? (i := 469) (by decide +kernel), List.mem_of_getElem? (i := 470) (by decide +kernel)⟩
theorem lw_p9 : lw_okq (⟨"FencedCode$Checker", "isDataFenced", "(I)Z"⟩, 4) := ⟨⟨by decide +kernel, by decide +kernel⟩, List.mem_of_getElem? (i := 96) (by decide +kernel), List.mem_of_getElem? (i := 494) (by decide +kernel), List.mem_of_getElem? (i := 495) (by decide +kernel)⟩
theorem lw_p10 : lw_okq (⟨"FencedCode$Checker", "before", "(II)I"⟩, 4) := ⟨⟨by decide +kernel, by decide +kernel⟩, List.mem_of_getElem? (i := 96) (by decide +kernel), List.mem_of_getElem? (i := 498) (by decide +kernel), List.mem_of_getElem? (i := 499) (by decide +kernel)⟩
theorem lw_p11 : lw_okq (⟨"FencedCode$Checker", "mayLeadTo", "(I)Z"⟩, 4) := ⟨⟨by decide +kernel, by decide +kernel⟩, List.mem_of_getElem? (i := 96) (by decide +kernel), List.mem_of_getElem? (i := 502) (by decide +kernel), List.mem_of_getElem? (i := 503) (by decide +kernel)⟩
theorem lw_p12 : lw_okq (⟨"FencedCode$Checker", "mayChangeReserved", "(III)Z"⟩, 4) := ⟨⟨by decide +kernel, by decide +kernel⟩, List.mem_of_getElem? (i := 96) (by decide +kernel), List.mem_of_getElem? (i := 509) (by decide +kernel), List.mem_of_getElem? (i := 510) (by decide +kernel)⟩
theorem lw_p13 : lw_okq (⟨"FencedCode$Machine", "comeBack", "()V"⟩, 9) := ⟨⟨by decide +kernel, by decide +kernel⟩, List.mem_of_getElem? (i := 145) (by decide +kernel), List.mem_of_getElem? (i := 568) (by decide +kernel), List.mem_of_getElem? (i := 569) (by decide +kernel)⟩
theorem lw_p14 : lw_okq (⟨"FencedCode$Machine", "stepInCode", "(I)I"⟩, 9) := ⟨⟨by decide +kernel, by decide +kernel⟩, List.mem_of_getElem? (i := 145) (by decide +kernel), List.mem_of_getElem? (i := 585) (by decide +kernel), List.mem_of_getElem? (i := 586) (by decide +kernel)⟩
theorem lw_p15 : lw_okq (⟨"FencedCode$Trial", "leap", "(III)I"⟩, 9) := ⟨⟨by decide +kernel, by decide +kernel⟩, List.mem_of_getElem? (i := 189) (by decide +kernel), List.mem_of_getElem? (i := 633) (by decide +kernel), List.mem_of_getElem? (i := 634) (by decide +kernel)⟩
def lw_privs_1 : List (MethodName × Nat) := [(⟨"FencedCode$Program", "targetOf", "(I)I"⟩, 8), (⟨"FencedCode$Rewriter", "pad", "(I)V"⟩, 3), (⟨"FencedCode$Rewriter", "write", "(IIII)V"⟩, 3), (⟨"FencedCode$Code", "has", "(I)Z"⟩, 2), (⟨"FencedCode$Rewriter", "writeLine", "(IIII)V"⟩, 3), (⟨"FencedCode$Checker", "firstBroken", "()I"⟩, 4), (⟨"FencedCode$Checker", "firstUnsafe", "()I"⟩, 4), (⟨"FencedCode$Checker", "begunAt", "(I)I"⟩, 4), (⟨"FencedCode$Checker", "isSafe", "(II)Z"⟩, 4), (⟨"FencedCode$Checker", "isDataFenced", "(I)Z"⟩, 4), (⟨"FencedCode$Checker", "before", "(II)I"⟩, 4), (⟨"FencedCode$Checker", "mayLeadTo", "(I)Z"⟩, 4), (⟨"FencedCode$Checker", "mayChangeReserved", "(III)Z"⟩, 4), (⟨"FencedCode$Machine", "comeBack", "()V"⟩, 9), (⟨"FencedCode$Machine", "stepInCode", "(I)I"⟩, 9), (⟨"FencedCode$Trial", "leap", "(III)I"⟩, 9)]
theorem lw_r1 : ∀ q ∈ lw_privs_1, lw_okq q := List.forall_mem_cons.mpr ⟨lw_p0, List.forall_mem_cons.mpr ⟨lw_p1, List.forall_mem_cons.mpr ⟨lw_p2, List.forall_mem_cons.mpr ⟨lw_p3, List.forall_mem_cons.mpr ⟨lw_p4, List.forall_mem_cons.mpr ⟨lw_p5, List.forall_mem_cons.mpr ⟨lw_p6, List.forall_mem_cons.mpr ⟨lw_p7, List.forall_mem_cons.mpr ⟨lw_p8, List.forall_mem_cons.mpr ⟨lw_p9, List.forall_mem_cons.mpr ⟨lw_p10, List.forall_mem_cons.mpr ⟨lw_p11, List.forall_mem_cons.mpr ⟨lw_p12, List.forall_mem_cons.mpr ⟨lw_p13, List.forall_mem_cons.mpr ⟨lw_p14, List.forall_mem_cons.mpr ⟨lw_p15, fun _ h => absurd h List.not_mem_nil⟩⟩⟩⟩⟩⟩⟩⟩⟩⟩⟩⟩⟩⟩⟩⟩
theorem lw_p16 : lw_okq (⟨"FencedCode$Trial", "serve", "(II)I"⟩, 9) := ⟨⟨by decide +kernel, by decide +kernel⟩, List.mem_of_getElem? (i := 189) (by decide +kernel), List.mem_of_getElem? (i := 642) (by decide +kernel), List.mem_of_getElem? (i := 643) (by decide +kernel)⟩
theorem lw_p17 : lw_okq (⟨"FencedCode", "runnerOf", "(I)LFencedCode$Runner;"⟩, 9) := ⟨⟨by decide +kernel, by decide +kernel⟩, List.mem_of_getElem? (i := 16) (by decide +kernel), List.mem_of_getElem? (i := 666) (by decide +kernel), List.mem_of_getElem? (i := 667) (by decide +kernel)⟩
theorem lw_p18 : lw_okq (⟨"FencedCodeModel", "targetOf", "(I)I"⟩, 28) := ⟨⟨by decide +kernel, by decide +kernel⟩, List.mem_of_getElem? (i := 695) (by decide +kernel), List.mem_of_getElem? (i := 858) (by decide +kernel), List.mem_of_getElem? (i := 859) (by decide +kernel)⟩
theorem lw_p19 : lw_okq (⟨"FencedCodeModel", "layOut", "()I"⟩, 28) := ⟨⟨by decide +kernel, by decide +kernel⟩, List.mem_of_getElem? (i := 695) (by decide +kernel), List.mem_of_getElem? (i := 862) (by decide +kernel), List.mem_of_getElem? (i := 863) (by decide +kernel)⟩
theorem lw_p20 : lw_okq (⟨"FencedCodeModel", "isAimed", "(I)Z"⟩, 28) := ⟨⟨by decide +kernel, by decide +kernel⟩, List.mem_of_getElem? (i := 695) (by decide +kernel), List.mem_of_getElem? (i := 866) (by decide +kernel), List.mem_of_getElem? (i := 867) (by decide +kernel)⟩
theorem lw_p21 : lw_okq (⟨"FencedCodeModel", "sizeOf", "(I)I"⟩, 28) := ⟨⟨by decide +kernel, by decide +kernel⟩, List.mem_of_getElem? (i := 695) (by decide +kernel), List.mem_of_getElem? (i := 873) (by decide +kernel), List.mem_of_getElem? (i := 874) (by decide +kernel)⟩
theorem lw_p22 : lw_okq (⟨"FencedCodeModel", "ends", "(I)Z"⟩, 28) := ⟨⟨by decide +kernel, by decide +kernel⟩, List.mem_of_getElem? (i := 695) (by decide +kernel), List.mem_of_getElem? (i := 877) (by decide +kernel), List.mem_of_getElem? (i := 878) (by decide +kernel)⟩
theorem lw_p23 : lw_okq (⟨"FencedCodeModel", "pad", "(I)V"⟩, 28) := ⟨⟨by decide +kernel, by decide +kernel⟩, List.mem_of_getElem? (i := 695) (by decide +kernel), List.mem_of_getElem? (i := 881) (by decide +kernel), List.mem_of_getElem? (i := 882) (by decide +kernel)⟩
theorem lw_p24 : lw_okq (⟨"FencedCodeModel", "put", "(II)V"⟩, 28) := ⟨⟨by decide +kernel, by decide +kernel⟩, List.mem_of_getElem? (i := 695) (by decide +kernel), List.mem_of_getElem? (i := 885) (by decide +kernel), List.mem_of_getElem? (i := 886) (by decide +kernel)⟩
theorem lw_p25 : lw_okq (⟨"FencedCodeModel", "write", "(I)V"⟩, 28) := ⟨⟨by decide +kernel, by decide +kernel⟩, List.mem_of_getElem? (i := 695) (by decide +kernel), List.mem_of_getElem? (i := 889) (by decide +kernel), List.mem_of_getElem? (i := 890) (by decide +kernel)⟩
theorem lw_p26 : lw_okq (⟨"FencedCodeModel", "bitsAt", "(I)I"⟩, 28) := ⟨⟨by decide +kernel, by decide +kernel⟩, List.mem_of_getElem? (i := 695) (by decide +kernel), List.mem_of_getElem? (i := 913) (by decide +kernel), List.mem_of_getElem? (i := 914) (by decide +kernel)⟩
theorem lw_p27 : lw_okq (⟨"FencedCodeModel", "byteAt", "(I)I"⟩, 28) := ⟨⟨by decide +kernel, by decide +kernel⟩, List.mem_of_getElem? (i := 695) (by decide +kernel), List.mem_of_getElem? (i := 917) (by decide +kernel), List.mem_of_getElem? (i := 918) (by decide +kernel)⟩
theorem lw_p28 : lw_okq (⟨"FencedCodeModel", "right", "(I)Z"⟩, 28) := ⟨⟨by decide +kernel, by decide +kernel⟩, List.mem_of_getElem? (i := 695) (by decide +kernel), List.mem_of_getElem? (i := 925) (by decide +kernel), List.mem_of_getElem? (i := 926) (by decide +kernel)⟩
theorem lw_p29 : lw_okq (⟨"FencedCodeModel", "spoils", "(II)Z"⟩, 28) := ⟨⟨by decide +kernel, by decide +kernel⟩, List.mem_of_getElem? (i := 695) (by decide +kernel), List.mem_of_getElem? (i := 929) (by decide +kernel), List.mem_of_getElem? (i := 930) (by decide +kernel)⟩
theorem lw_p30 : lw_okq (⟨"FencedCodeModel", "isBefore", "(IIZ)Z"⟩, 28) := ⟨⟨by decide +kernel, by decide +kernel⟩, List.mem_of_getElem? (i := 695) (by decide +kernel), List.mem_of_getElem? (i := 934) (by decide +kernel), List.mem_of_getElem? (i := 935) (by decide +kernel)⟩
theorem lw_p31 : lw_okq (⟨"FencedCodeModel", "before", "(I)I"⟩, 28) := ⟨⟨by decide +kernel, by decide +kernel⟩, List.mem_of_getElem? (i := 695) (by decide +kernel), List.mem_of_getElem? (i := 938) (by decide +kernel), List.mem_of_getElem? (i := 939) (by decide +kernel)⟩
def lw_privs_2 : List (MethodName × Nat) := [(⟨"FencedCode$Trial", "serve", "(II)I"⟩, 9), (⟨"FencedCode", "runnerOf", "(I)LFencedCode$Runner;"⟩, 9), (⟨"FencedCodeModel", "targetOf", "(I)I"⟩, 28), (⟨"FencedCodeModel", "layOut", "()I"⟩, 28), (⟨"FencedCodeModel", "isAimed", "(I)Z"⟩, 28), (⟨"FencedCodeModel", "sizeOf", "(I)I"⟩, 28), (⟨"FencedCodeModel", "ends", "(I)Z"⟩, 28), (⟨"FencedCodeModel", "pad", "(I)V"⟩, 28), (⟨"FencedCodeModel", "put", "(II)V"⟩, 28), (⟨"FencedCodeModel", "write", "(I)V"⟩, 28), (⟨"FencedCodeModel", "bitsAt", "(I)I"⟩, 28), (⟨"FencedCodeModel", "byteAt", "(I)I"⟩, 28), (⟨"FencedCodeModel", "right", "(I)Z"⟩, 28), (⟨"FencedCodeModel", "spoils", "(II)Z"⟩, 28), (⟨"FencedCodeModel", "isBefore", "(IIZ)Z"⟩, 28), (⟨"FencedCodeModel", "before", "(I)I"⟩, 28)]
theorem lw_r2 : ∀ q ∈ lw_privs_2, lw_okq q := List.forall_mem_cons.mpr ⟨lw_p16, List.forall_mem_cons.mpr ⟨lw_p17, List.forall_mem_cons.mpr ⟨lw_p18, List.forall_mem_cons.mpr ⟨lw_p19, List.forall_mem_cons.mpr ⟨lw_p20, List.forall_mem_cons.mpr ⟨lw_p21, List.forall_mem_cons.mpr ⟨lw_p22, List.forall_mem_cons.mpr ⟨lw_p23, List.forall_mem_cons.mpr ⟨lw_p24, List.forall_mem_cons.mpr ⟨lw_p25, List.forall_mem_cons.mpr ⟨lw_p26, List.forall_mem_cons.mpr ⟨lw_p27, List.forall_mem_cons.mpr ⟨lw_p28, List.forall_mem_cons.mpr ⟨lw_p29, List.forall_mem_cons.mpr ⟨lw_p30, List.forall_mem_cons.mpr ⟨lw_p31, fun _ h => absurd h List.not_mem_nil⟩⟩⟩⟩⟩⟩⟩⟩⟩⟩⟩⟩⟩⟩⟩⟩
theorem lw_p32 : lw_okq (⟨"FencedCodeModel", "lands", "(I)Z"⟩, 28) := ⟨⟨by decide +kernel, by decide +kernel⟩, List.mem_of_getElem? (i := 695) (by decide +kernel), List.mem_of_getElem? (i := 942) (by decide +kernel), List.mem_of_getElem? (i := 943) (by decide +kernel)⟩
theorem lw_p33 : lw_okq (⟨"FencedCodeModel", "anew", "(I)V"⟩, 28) := ⟨⟨by decide +kernel, by decide +kernel⟩, List.mem_of_getElem? (i := 695) (by decide +kernel), List.mem_of_getElem? (i := 954) (by decide +kernel), List.mem_of_getElem? (i := 955) (by decide +kernel)⟩
theorem lw_p34 : lw_okq (⟨"FencedCodeModel", "set", "(III)V"⟩, 28) := ⟨⟨by decide +kernel, by decide +kernel⟩, List.mem_of_getElem? (i := 695) (by decide +kernel), List.mem_of_getElem? (i := 958) (by decide +kernel), List.mem_of_getElem? (i := 959) (by decide +kernel)⟩
theorem lw_p35 : lw_okq (⟨"FencedCodeModel", "step", "()I"⟩, 28) := ⟨⟨by decide +kernel, by decide +kernel⟩, List.mem_of_getElem? (i := 695) (by decide +kernel), List.mem_of_getElem? (i := 962) (by decide +kernel), List.mem_of_getElem? (i := 963) (by decide +kernel)⟩
theorem lw_p36 : lw_okq (⟨"FencedCodeModel", "serve", "(II)V"⟩, 28) := ⟨⟨by decide +kernel, by decide +kernel⟩, List.mem_of_getElem? (i := 695) (by decide +kernel), List.mem_of_getElem? (i := 966) (by decide +kernel), List.mem_of_getElem? (i := 967) (by decide +kernel)⟩
theorem lw_p37 : lw_okq (⟨"FencedCodeModel", "get", "(II)I"⟩, 28) := ⟨⟨by decide +kernel, by decide +kernel⟩, List.mem_of_getElem? (i := 695) (by decide +kernel), List.mem_of_getElem? (i := 970) (by decide +kernel), List.mem_of_getElem? (i := 971) (by decide +kernel)⟩
theorem lw_p38 : lw_okq (⟨"FencedCodeModel", "moved", "(IIIII)Z"⟩, 28) := ⟨⟨by decide +kernel, by decide +kernel⟩, List.mem_of_getElem? (i := 695) (by decide +kernel), List.mem_of_getElem? (i := 974) (by decide +kernel), List.mem_of_getElem? (i := 975) (by decide +kernel)⟩
theorem lw_p39 : lw_okq (⟨"FencedCodeModel", "holds", "(IIII)Z"⟩, 28) := ⟨⟨by decide +kernel, by decide +kernel⟩, List.mem_of_getElem? (i := 695) (by decide +kernel), List.mem_of_getElem? (i := 978) (by decide +kernel), List.mem_of_getElem? (i := 979) (by decide +kernel)⟩
theorem lw_p40 : lw_okq (⟨"FencedCodeModel", "reckon", "(IIIII)V"⟩, 28) := ⟨⟨by decide +kernel, by decide +kernel⟩, List.mem_of_getElem? (i := 695) (by decide +kernel), List.mem_of_getElem? (i := 982) (by decide +kernel), List.mem_of_getElem? (i := 983) (by decide +kernel)⟩
theorem lw_p41 : lw_okq (⟨"FencedCodeModel", "lineDone", "()I"⟩, 28) := ⟨⟨by decide +kernel, by decide +kernel⟩, List.mem_of_getElem? (i := 695) (by decide +kernel), List.mem_of_getElem? (i := 990) (by decide +kernel), List.mem_of_getElem? (i := 991) (by decide +kernel)⟩
theorem lw_p42 : lw_okq (⟨"FencedCodeModel", "lineAt", "(I)I"⟩, 28) := ⟨⟨by decide +kernel, by decide +kernel⟩, List.mem_of_getElem? (i := 695) (by decide +kernel), List.mem_of_getElem? (i := 994) (by decide +kernel), List.mem_of_getElem? (i := 995) (by decide +kernel)⟩
def lw_privs_3 : List (MethodName × Nat) := [(⟨"FencedCodeModel", "lands", "(I)Z"⟩, 28), (⟨"FencedCodeModel", "anew", "(I)V"⟩, 28), (⟨"FencedCodeModel", "set", "(III)V"⟩, 28), (⟨"FencedCodeModel", "step", "()I"⟩, 28), (⟨"FencedCodeModel", "serve", "(II)V"⟩, 28), (⟨"FencedCodeModel", "get", "(II)I"⟩, 28), (⟨"FencedCodeModel", "moved", "(IIIII)Z"⟩, 28), (⟨"FencedCodeModel", "holds", "(IIII)Z"⟩, 28), (⟨"FencedCodeModel", "reckon", "(IIIII)V"⟩, 28), (⟨"FencedCodeModel", "lineDone", "()I"⟩, 28), (⟨"FencedCodeModel", "lineAt", "(I)I"⟩, 28)]
theorem lw_r3 : ∀ q ∈ lw_privs_3, lw_okq q := List.forall_mem_cons.mpr ⟨lw_p32, List.forall_mem_cons.mpr ⟨lw_p33, List.forall_mem_cons.mpr ⟨lw_p34, List.forall_mem_cons.mpr ⟨lw_p35, List.forall_mem_cons.mpr ⟨lw_p36, List.forall_mem_cons.mpr ⟨lw_p37, List.forall_mem_cons.mpr ⟨lw_p38, List.forall_mem_cons.mpr ⟨lw_p39, List.forall_mem_cons.mpr ⟨lw_p40, List.forall_mem_cons.mpr ⟨lw_p41, List.forall_mem_cons.mpr ⟨lw_p42, fun _ h => absurd h List.not_mem_nil⟩⟩⟩⟩⟩⟩⟩⟩⟩⟩⟩
def lw_privs : List (MethodName × Nat) := lw_privs_1 ++ (lw_privs_2 ++ (lw_privs_3))
def lw_tbl : List Cond := k2_sels lw_privs ++ tables_1
theorem lw_privs_ok : ∀ q ∈ lw_privs, lw_okq q := by
  show ∀ q ∈ lw_privs_1 ++ (lw_privs_2 ++ (lw_privs_3)), lw_okq q
  exact List.forall_mem_append.mpr ⟨lw_r1, List.forall_mem_append.mpr ⟨lw_r2, lw_r3⟩⟩
end
section
def RX0 : String := "FencedCode$Checker"
def TX0 : u_T := fun k => match k with
  | 0 => ("FencedCode$Checker", "code", "LFencedCode$Code;", true)
  | 1 => ("FencedCode$Checker", "dataMasked", "I", true)
  | 2 => ("FencedCode$Checker", "dataBased", "I", true)
  | _ => ("FencedCode$Checker", "begun", "[I", true)
def tyX0 : Nat → FieldType := fun k => match k with
  | 0 => .object "FencedCode$Code"
  | 1 => .int
  | 2 => .int
  | _ => .array .int
abbrev wsX00 : List Cond := u_ws RX0 TX0 4
theorem nmX0 : ∀ a, a < 4 → ∀ b, b < 4 → a ≠ b → (TX0 a).2.1 ≠ (TX0 b).2.1 := by decide +kernel
theorem tyX0_ok : ∀ k, k < 4 → parseFieldDescriptor (TX0 k).2.2.1 = some (tyX0 k) := by decide +kernel
abbrev cX0_init : ByteArray := prog_2_method_1_code
def yX0_init : MethodName := ⟨RX0, "<init>", "(LFencedCode$Code;)V"⟩
abbrev cX0_firstWrong : ByteArray := prog_2_method_2_code
def yX0_firstWrong : MethodName := ⟨RX0, "firstWrong", "()I"⟩
abbrev cX0_firstBroken : ByteArray := prog_2_method_3_code
def yX0_firstBroken : MethodName := ⟨RX0, "firstBroken", "()I"⟩
abbrev cX0_firstUnsafe : ByteArray := prog_2_method_4_code
def yX0_firstUnsafe : MethodName := ⟨RX0, "firstUnsafe", "()I"⟩
abbrev cX0_begunAt : ByteArray := prog_2_method_5_code
def yX0_begunAt : MethodName := ⟨RX0, "begunAt", "(I)I"⟩
abbrev cX0_before : ByteArray := prog_2_method_6_code
def yX0_before : MethodName := ⟨RX0, "before", "(II)I"⟩
abbrev cX0_isSafe : ByteArray := prog_2_method_7_code
def yX0_isSafe : MethodName := ⟨RX0, "isSafe", "(II)Z"⟩
abbrev cX0_mayChangeReserved : ByteArray := prog_2_method_8_code
def yX0_mayChangeReserved : MethodName := ⟨RX0, "mayChangeReserved", "(III)Z"⟩
abbrev cX0_isDataFenced : ByteArray := prog_2_method_9_code
def yX0_isDataFenced : MethodName := ⟨RX0, "isDataFenced", "(I)Z"⟩
abbrev cX0_isCodeMask : ByteArray := prog_2_method_10_code
def yX0_isCodeMask : MethodName := ⟨RX0, "isCodeMask", "(I)Z"⟩
abbrev cX0_mayLeadTo : ByteArray := prog_2_method_11_code
def yX0_mayLeadTo : MethodName := ⟨RX0, "mayLeadTo", "(I)Z"⟩
def RX1 : String := "FencedCode$Code"
def TX1 : u_T := fun k => match k with
  | 0 => ("FencedCode$Code", "bytes", "[I", true)
  | _ => ("FencedCode$Code", "count", "I", false)
def tyX1 : Nat → FieldType := fun k => match k with
  | 0 => .array .int
  | _ => .int
abbrev wsX10 : List Cond := u_ws RX1 TX1 2
theorem nmX1 : ∀ a, a < 2 → ∀ b, b < 2 → a ≠ b → (TX1 a).2.1 ≠ (TX1 b).2.1 := by decide +kernel
theorem tyX1_ok : ∀ k, k < 2 → parseFieldDescriptor (TX1 k).2.2.1 = some (tyX1 k) := by decide +kernel
abbrev cX1_init : ByteArray := prog_3_method_1_code
def yX1_init : MethodName := ⟨RX1, "<init>", "()V"⟩
abbrev cX1_has : ByteArray := prog_3_method_2_code
def yX1_has : MethodName := ⟨RX1, "has", "(I)Z"⟩
abbrev cX1_resize : ByteArray := prog_3_method_3_code
def yX1_resize : MethodName := ⟨RX1, "resize", "(I)Z"⟩
abbrev cX1_put : ByteArray := prog_3_method_4_code
def yX1_put : MethodName := ⟨RX1, "put", "(II)Z"⟩
abbrev cX1_byteAt : ByteArray := prog_3_method_5_code
def yX1_byteAt : MethodName := ⟨RX1, "byteAt", "(I)I"⟩
abbrev cX1_fetch : ByteArray := prog_3_method_6_code
def yX1_fetch : MethodName := ⟨RX1, "fetch", "(I)I"⟩
def RX2 : String := "FencedCode$Format"
def TX2 : u_T := fun k => match k with
  | _ => ("", "", "", false)
def tyX2 : Nat → FieldType := fun k => match k with
  | _ => .int
abbrev wsX20 : List Cond := u_ws RX2 TX2 0
theorem nmX2 : ∀ a, a < 0 → ∀ b, b < 0 → a ≠ b → (TX2 a).2.1 ≠ (TX2 b).2.1 := by decide +kernel
theorem tyX2_ok : ∀ k, k < 0 → parseFieldDescriptor (TX2 k).2.2.1 = some (tyX2 k) := by decide +kernel
abbrev cX2_encodable : ByteArray := prog_4_method_2_code
def yX2_encodable : MethodName := ⟨RX2, "encodable", "(IIII)Z"⟩
abbrev cX2_plainFits : ByteArray := prog_4_method_3_code
def yX2_plainFits : MethodName := ⟨RX2, "plainFits", "(IIIII)Z"⟩
abbrev cX2_isShort : ByteArray := prog_4_method_4_code
def yX2_isShort : MethodName := ⟨RX2, "isShort", "(I)Z"⟩
abbrev cX2_pack : ByteArray := prog_4_method_5_code
def yX2_pack : MethodName := ⟨RX2, "pack", "(IIII)I"⟩
abbrev cX2_threeRegisters : ByteArray := prog_4_method_6_code
def yX2_threeRegisters : MethodName := ⟨RX2, "threeRegisters", "(IIIII)I"⟩
abbrev cX2_withShort : ByteArray := prog_4_method_7_code
def yX2_withShort : MethodName := ⟨RX2, "withShort", "(IIIII)I"⟩
abbrev cX2_branch : ByteArray := prog_4_method_8_code
def yX2_branch : MethodName := ⟨RX2, "branch", "(IIII)I"⟩
abbrev cX2_jump : ByteArray := prog_4_method_9_code
def yX2_jump : MethodName := ⟨RX2, "jump", "(II)I"⟩
abbrev cX2_isLong : ByteArray := prog_4_method_10_code
def yX2_isLong : MethodName := ⟨RX2, "isLong", "(I)Z"⟩
abbrev cX2_sizeOf : ByteArray := prog_4_method_11_code
def yX2_sizeOf : MethodName := ⟨RX2, "sizeOf", "(I)I"⟩
abbrev cX2_kindOf : ByteArray := prog_4_method_12_code
def yX2_kindOf : MethodName := ⟨RX2, "kindOf", "(I)I"⟩
abbrev cX2_arithmeticKindOf : ByteArray := prog_4_method_13_code
def yX2_arithmeticKindOf : MethodName := ⟨RX2, "arithmeticKindOf", "(II)I"⟩
abbrev cX2_branchKindOf : ByteArray := prog_4_method_14_code
def yX2_branchKindOf : MethodName := ⟨RX2, "branchKindOf", "(I)I"⟩
abbrev cX2_shortKindOf : ByteArray := prog_4_method_15_code
def yX2_shortKindOf : MethodName := ⟨RX2, "shortKindOf", "(I)I"⟩
abbrev cX2_lowRegister : ByteArray := prog_4_method_16_code
def yX2_lowRegister : MethodName := ⟨RX2, "lowRegister", "(I)I"⟩
abbrev cX2_middleRegister : ByteArray := prog_4_method_17_code
def yX2_middleRegister : MethodName := ⟨RX2, "middleRegister", "(I)I"⟩
abbrev cX2_highRegister : ByteArray := prog_4_method_18_code
def yX2_highRegister : MethodName := ⟨RX2, "highRegister", "(I)I"⟩
abbrev cX2_shortRegister : ByteArray := prog_4_method_19_code
def yX2_shortRegister : MethodName := ⟨RX2, "shortRegister", "(I)I"⟩
abbrev cX2_shortNumber : ByteArray := prog_4_method_20_code
def yX2_shortNumber : MethodName := ⟨RX2, "shortNumber", "(I)I"⟩
abbrev cX2_branchOffset : ByteArray := prog_4_method_21_code
def yX2_branchOffset : MethodName := ⟨RX2, "branchOffset", "(I)I"⟩
abbrev cX2_jumpOffset : ByteArray := prog_4_method_22_code
def yX2_jumpOffset : MethodName := ⟨RX2, "jumpOffset", "(I)I"⟩
abbrev cX2_firstOf : ByteArray := prog_4_method_23_code
def yX2_firstOf : MethodName := ⟨RX2, "firstOf", "(II)I"⟩
abbrev cX2_secondOf : ByteArray := prog_4_method_24_code
def yX2_secondOf : MethodName := ⟨RX2, "secondOf", "(II)I"⟩
abbrev cX2_thirdOf : ByteArray := prog_4_method_25_code
def yX2_thirdOf : MethodName := ⟨RX2, "thirdOf", "(II)I"⟩
def RX3 : String := "FencedCode$Inputs"
def TX3 : u_T := fun k => match k with
  | 0 => ("FencedCode$Inputs", "values", "[I", true)
  | _ => ("FencedCode$Inputs", "count", "I", false)
def tyX3 : Nat → FieldType := fun k => match k with
  | 0 => .array .int
  | _ => .int
abbrev wsX30 : List Cond := u_ws RX3 TX3 2
theorem nmX3 : ∀ a, a < 2 → ∀ b, b < 2 → a ≠ b → (TX3 a).2.1 ≠ (TX3 b).2.1 := by decide +kernel
theorem tyX3_ok : ∀ k, k < 2 → parseFieldDescriptor (TX3 k).2.2.1 = some (tyX3 k) := by decide +kernel
abbrev cX3_init : ByteArray := prog_5_method_1_code
def yX3_init : MethodName := ⟨RX3, "<init>", "()V"⟩
abbrev cX3_add : ByteArray := prog_5_method_2_code
def yX3_add : MethodName := ⟨RX3, "add", "(I)Z"⟩
abbrev cX3_valueAt : ByteArray := prog_5_method_3_code
def yX3_valueAt : MethodName := ⟨RX3, "valueAt", "(I)I"⟩
def RX4 : String := "FencedCode$Layout"
def TX4 : u_T := fun k => match k with
  | _ => ("", "", "", false)
def tyX4 : Nat → FieldType := fun k => match k with
  | _ => .int
abbrev wsX40 : List Cond := u_ws RX4 TX4 0
theorem nmX4 : ∀ a, a < 0 → ∀ b, b < 0 → a ≠ b → (TX4 a).2.1 ≠ (TX4 b).2.1 := by decide +kernel
theorem tyX4_ok : ∀ k, k < 0 → parseFieldDescriptor (TX4 k).2.2.1 = some (tyX4 k) := by decide +kernel
abbrev cX4_place : ByteArray := prog_6_method_2_code
def yX4_place : MethodName := ⟨RX4, "place", "(LFencedCode$Program;)I"⟩
abbrev cX4_targetPlace : ByteArray := prog_6_method_3_code
def yX4_targetPlace : MethodName := ⟨RX4, "targetPlace", "(LFencedCode$Program;II)I"⟩
abbrev cX4_linePlace : ByteArray := prog_6_method_4_code
def yX4_linePlace : MethodName := ⟨RX4, "linePlace", "(LFencedCode$Program;II)I"⟩
abbrev cX4_endsBundle : ByteArray := prog_6_method_5_code
def yX4_endsBundle : MethodName := ⟨RX4, "endsBundle", "(II)Z"⟩
abbrev cX4_nextWith : ByteArray := prog_6_method_6_code
def yX4_nextWith : MethodName := ⟨RX4, "nextWith", "(II)I"⟩
abbrev cX4_bytesOf : ByteArray := prog_6_method_7_code
def yX4_bytesOf : MethodName := ⟨RX4, "bytesOf", "(I)I"⟩
def RX5 : String := "FencedCode$Machine"
def TX5 : u_T := fun k => match k with
  | 0 => ("FencedCode$Runner", "inputs", "LFencedCode$Inputs;", true)
  | 1 => ("FencedCode$Runner", "registers", "[I", true)
  | 2 => ("FencedCode$Runner", "data", "[I", true)
  | 3 => ("FencedCode$Runner", "outputs", "[I", true)
  | 4 => ("FencedCode$Runner", "inputsRead", "I", false)
  | 5 => ("FencedCode$Runner", "outputCount", "I", false)
  | 6 => ("FencedCode$Runner", "steps", "I", false)
  | 7 => ("FencedCode$Runner", "place", "I", false)
  | _ => ("FencedCode$Machine", "code", "LFencedCode$Code;", true)
def tyX5 : Nat → FieldType := fun k => match k with
  | 0 => .object "FencedCode$Inputs"
  | 1 => .array .int
  | 2 => .array .int
  | 3 => .array .int
  | 4 => .int
  | 5 => .int
  | 6 => .int
  | 7 => .int
  | _ => .object "FencedCode$Code"
abbrev wsX50 : List Cond := u_ws RX5 TX5 9
theorem nmX5 : ∀ a, a < 9 → ∀ b, b < 9 → a ≠ b → (TX5 a).2.1 ≠ (TX5 b).2.1 := by decide +kernel
theorem tyX5_ok : ∀ k, k < 9 → parseFieldDescriptor (TX5 k).2.2.1 = some (tyX5 k) := by decide +kernel
abbrev cX5_init : ByteArray := prog_7_method_1_code
def yX5_init : MethodName := ⟨RX5, "<init>", "(LFencedCode$Code;LFencedCode$Inputs;)V"⟩
abbrev cX5_begin : ByteArray := prog_7_method_2_code
def yX5_begin : MethodName := ⟨RX5, "begin", "()V"⟩
abbrev cX5_step : ByteArray := prog_7_method_3_code
def yX5_step : MethodName := ⟨RX5, "step", "()I"⟩
abbrev cX5_comeBack : ByteArray := prog_7_method_4_code
def yX5_comeBack : MethodName := ⟨RX5, "comeBack", "()V"⟩
abbrev cX5_stepInCode : ByteArray := prog_7_method_5_code
def yX5_stepInCode : MethodName := ⟨RX5, "stepInCode", "(I)I"⟩
def RX6 : String := "FencedCode$Program"
def TX6 : u_T := fun k => match k with
  | 0 => ("FencedCode$Program", "kinds", "[I", true)
  | 1 => ("FencedCode$Program", "as", "[I", true)
  | 2 => ("FencedCode$Program", "bs", "[I", true)
  | 3 => ("FencedCode$Program", "cs", "[I", true)
  | 4 => ("FencedCode$Program", "addresses", "[I", true)
  | 5 => ("FencedCode$Program", "starts", "[I", true)
  | 6 => ("FencedCode$Program", "count", "I", false)
  | _ => ("FencedCode$Program", "codeEnd", "I", false)
def tyX6 : Nat → FieldType := fun k => match k with
  | 0 => .array .int
  | 1 => .array .int
  | 2 => .array .int
  | 3 => .array .int
  | 4 => .array .int
  | 5 => .array .int
  | 6 => .int
  | _ => .int
abbrev wsX60 : List Cond := u_ws RX6 TX6 8
theorem nmX6 : ∀ a, a < 8 → ∀ b, b < 8 → a ≠ b → (TX6 a).2.1 ≠ (TX6 b).2.1 := by decide +kernel
theorem tyX6_ok : ∀ k, k < 8 → parseFieldDescriptor (TX6 k).2.2.1 = some (tyX6 k) := by decide +kernel
abbrev cX6_init : ByteArray := prog_8_method_1_code
def yX6_init : MethodName := ⟨RX6, "<init>", "()V"⟩
abbrev cX6_allows : ByteArray := prog_8_method_2_code
def yX6_allows : MethodName := ⟨RX6, "allows", "(IIII)Z"⟩
abbrev cX6_isFree : ByteArray := prog_8_method_3_code
def yX6_isFree : MethodName := ⟨RX6, "isFree", "(I)Z"⟩
abbrev cX6_mayBeTarget : ByteArray := prog_8_method_4_code
def yX6_mayBeTarget : MethodName := ⟨RX6, "mayBeTarget", "(I)Z"⟩
abbrev cX6_add : ByteArray := prog_8_method_5_code
def yX6_add : MethodName := ⟨RX6, "add", "(IIII)Z"⟩
abbrev cX6_has : ByteArray := prog_8_method_6_code
def yX6_has : MethodName := ⟨RX6, "has", "(II)Z"⟩
abbrev cX6_kindAt : ByteArray := prog_8_method_7_code
def yX6_kindAt : MethodName := ⟨RX6, "kindAt", "(I)I"⟩
abbrev cX6_firstAt : ByteArray := prog_8_method_8_code
def yX6_firstAt : MethodName := ⟨RX6, "firstAt", "(I)I"⟩
abbrev cX6_secondAt : ByteArray := prog_8_method_9_code
def yX6_secondAt : MethodName := ⟨RX6, "secondAt", "(I)I"⟩
abbrev cX6_thirdAt : ByteArray := prog_8_method_10_code
def yX6_thirdAt : MethodName := ⟨RX6, "thirdAt", "(I)I"⟩
abbrev cX6_startAt : ByteArray := prog_8_method_11_code
def yX6_startAt : MethodName := ⟨RX6, "startAt", "(I)I"⟩
abbrev cX6_addressOf : ByteArray := prog_8_method_12_code
def yX6_addressOf : MethodName := ⟨RX6, "addressOf", "(I)I"⟩
abbrev cX6_targetOf : ByteArray := prog_8_method_13_code
def yX6_targetOf : MethodName := ⟨RX6, "targetOf", "(I)I"⟩
abbrev cX6_targetsExist : ByteArray := prog_8_method_14_code
def yX6_targetsExist : MethodName := ⟨RX6, "targetsExist", "()Z"⟩
abbrev cX6_isAddressTaken : ByteArray := prog_8_method_15_code
def yX6_isAddressTaken : MethodName := ⟨RX6, "isAddressTaken", "(I)Z"⟩
abbrev cX6_bundleTargetAt : ByteArray := prog_8_method_16_code
def yX6_bundleTargetAt : MethodName := ⟨RX6, "bundleTargetAt", "(I)I"⟩
abbrev cX6_copyFrom : ByteArray := prog_8_method_17_code
def yX6_copyFrom : MethodName := ⟨RX6, "copyFrom", "(LFencedCode$Program;)V"⟩
def RX7 : String := "FencedCode$Rewriter"
def TX7 : u_T := fun k => match k with
  | 0 => ("FencedCode$Rewriter", "program", "LFencedCode$Program;", true)
  | 1 => ("FencedCode$Rewriter", "code", "LFencedCode$Code;", true)
  | _ => ("FencedCode$Rewriter", "at", "I", false)
def tyX7 : Nat → FieldType := fun k => match k with
  | 0 => .object "FencedCode$Program"
  | 1 => .object "FencedCode$Code"
  | _ => .int
abbrev wsX70 : List Cond := u_ws RX7 TX7 3
theorem nmX7 : ∀ a, a < 3 → ∀ b, b < 3 → a ≠ b → (TX7 a).2.1 ≠ (TX7 b).2.1 := by decide +kernel
theorem tyX7_ok : ∀ k, k < 3 → parseFieldDescriptor (TX7 k).2.2.1 = some (tyX7 k) := by decide +kernel
abbrev cX7_init : ByteArray := prog_9_method_1_code
def yX7_init : MethodName := ⟨RX7, "<init>", "(LFencedCode$Program;LFencedCode$Code;)V"⟩
abbrev cX7_writeAll : ByteArray := prog_9_method_2_code
def yX7_writeAll : MethodName := ⟨RX7, "writeAll", "()V"⟩
abbrev cX7_pad : ByteArray := prog_9_method_3_code
def yX7_pad : MethodName := ⟨RX7, "pad", "(I)V"⟩
abbrev cX7_writeLine : ByteArray := prog_9_method_4_code
def yX7_writeLine : MethodName := ⟨RX7, "writeLine", "(IIII)V"⟩
abbrev cX7_write : ByteArray := prog_9_method_5_code
def yX7_write : MethodName := ⟨RX7, "write", "(IIII)V"⟩
def RX8 : String := "FencedCode$Runner"
def TX8 : u_T := fun k => match k with
  | _ => ("", "", "", false)
def tyX8 : Nat → FieldType := fun k => match k with
  | _ => .int
abbrev wsX80 : List Cond := u_ws RX8 TX8 0
theorem nmX8 : ∀ a, a < 0 → ∀ b, b < 0 → a ≠ b → (TX8 a).2.1 ≠ (TX8 b).2.1 := by decide +kernel
theorem tyX8_ok : ∀ k, k < 0 → parseFieldDescriptor (TX8 k).2.2.1 = some (tyX8 k) := by decide +kernel
abbrev cX8_init : ByteArray := prog_10_method_1_code
def yX8_init : MethodName := ⟨RX8, "<init>", "(LFencedCode$Inputs;)V"⟩
abbrev cX8_go : ByteArray := prog_10_method_4_code
def yX8_go : MethodName := ⟨RX8, "go", "(I)I"⟩
abbrev cX8_forgetAll : ByteArray := prog_10_method_5_code
def yX8_forgetAll : MethodName := ⟨RX8, "forgetAll", "()V"⟩
abbrev cX8_get : ByteArray := prog_10_method_6_code
def yX8_get : MethodName := ⟨RX8, "get", "(I)I"⟩
abbrev cX8_set : ByteArray := prog_10_method_7_code
def yX8_set : MethodName := ⟨RX8, "set", "(II)V"⟩
abbrev cX8_wordAt : ByteArray := prog_10_method_8_code
def yX8_wordAt : MethodName := ⟨RX8, "wordAt", "(I)I"⟩
abbrev cX8_outputAt : ByteArray := prog_10_method_9_code
def yX8_outputAt : MethodName := ⟨RX8, "outputAt", "(I)I"⟩
abbrev cX8_readInput : ByteArray := prog_10_method_10_code
def yX8_readInput : MethodName := ⟨RX8, "readInput", "()V"⟩
abbrev cX8_writeOutput : ByteArray := prog_10_method_11_code
def yX8_writeOutput : MethodName := ⟨RX8, "writeOutput", "()V"⟩
abbrev cX8_compute : ByteArray := prog_10_method_12_code
def yX8_compute : MethodName := ⟨RX8, "compute", "(IIII)V"⟩
abbrev cX8_branches : ByteArray := prog_10_method_13_code
def yX8_branches : MethodName := ⟨RX8, "branches", "(III)Z"⟩
abbrev cX8_moves : ByteArray := prog_10_method_14_code
def yX8_moves : MethodName := ⟨RX8, "moves", "(IIII)Z"⟩
def RX9 : String := "FencedCode$Trial"
def TX9 : u_T := fun k => match k with
  | 0 => ("FencedCode$Runner", "inputs", "LFencedCode$Inputs;", true)
  | 1 => ("FencedCode$Runner", "registers", "[I", true)
  | 2 => ("FencedCode$Runner", "data", "[I", true)
  | 3 => ("FencedCode$Runner", "outputs", "[I", true)
  | 4 => ("FencedCode$Runner", "inputsRead", "I", false)
  | 5 => ("FencedCode$Runner", "outputCount", "I", false)
  | 6 => ("FencedCode$Runner", "steps", "I", false)
  | 7 => ("FencedCode$Runner", "place", "I", false)
  | _ => ("FencedCode$Trial", "program", "LFencedCode$Program;", true)
def tyX9 : Nat → FieldType := fun k => match k with
  | 0 => .object "FencedCode$Inputs"
  | 1 => .array .int
  | 2 => .array .int
  | 3 => .array .int
  | 4 => .int
  | 5 => .int
  | 6 => .int
  | 7 => .int
  | _ => .object "FencedCode$Program"
abbrev wsX90 : List Cond := u_ws RX9 TX9 9
theorem nmX9 : ∀ a, a < 9 → ∀ b, b < 9 → a ≠ b → (TX9 a).2.1 ≠ (TX9 b).2.1 := by decide +kernel
theorem tyX9_ok : ∀ k, k < 9 → parseFieldDescriptor (TX9 k).2.2.1 = some (tyX9 k) := by decide +kernel
abbrev cX9_init : ByteArray := prog_11_method_1_code
def yX9_init : MethodName := ⟨RX9, "<init>", "(LFencedCode$Program;LFencedCode$Inputs;)V"⟩
abbrev cX9_begin : ByteArray := prog_11_method_2_code
def yX9_begin : MethodName := ⟨RX9, "begin", "()V"⟩
abbrev cX9_step : ByteArray := prog_11_method_3_code
def yX9_step : MethodName := ⟨RX9, "step", "()I"⟩
abbrev cX9_leap : ByteArray := prog_11_method_4_code
def yX9_leap : MethodName := ⟨RX9, "leap", "(III)I"⟩
abbrev cX9_serve : ByteArray := prog_11_method_5_code
def yX9_serve : MethodName := ⟨RX9, "serve", "(II)I"⟩
def RX10 : String := "FencedCode"
def TX10 : u_T := fun k => match k with
  | 0 => ("FencedCode", "written", "LFencedCode$Program;", true)
  | 1 => ("FencedCode", "built", "LFencedCode$Program;", true)
  | 2 => ("FencedCode", "rewriter", "LFencedCode$Rewriter;", true)
  | 3 => ("FencedCode", "code", "LFencedCode$Code;", true)
  | 4 => ("FencedCode", "checker", "LFencedCode$Checker;", true)
  | 5 => ("FencedCode", "inputs", "LFencedCode$Inputs;", true)
  | 6 => ("FencedCode", "machine", "LFencedCode$Machine;", true)
  | 7 => ("FencedCode", "meant", "LFencedCode$Trial;", true)
  | _ => ("FencedCode", "everBuilt", "Z", false)
def tyX10 : Nat → FieldType := fun k => match k with
  | 0 => .object "FencedCode$Program"
  | 1 => .object "FencedCode$Program"
  | 2 => .object "FencedCode$Rewriter"
  | 3 => .object "FencedCode$Code"
  | 4 => .object "FencedCode$Checker"
  | 5 => .object "FencedCode$Inputs"
  | 6 => .object "FencedCode$Machine"
  | 7 => .object "FencedCode$Trial"
  | _ => .boolean
abbrev wsX100 : List Cond := u_ws RX10 TX10 9
theorem nmX10 : ∀ a, a < 9 → ∀ b, b < 9 → a ≠ b → (TX10 a).2.1 ≠ (TX10 b).2.1 := by decide +kernel
theorem tyX10_ok : ∀ k, k < 9 → parseFieldDescriptor (TX10 k).2.2.1 = some (tyX10 k) := by decide +kernel
abbrev cX10_init : ByteArray := prog_1_method_1_code
def yX10_init : MethodName := ⟨RX10, "<init>", "()V"⟩
abbrev cX10_encode : ByteArray := prog_1_method_2_code
def yX10_encode : MethodName := ⟨RX10, "encode", "(IIII)I"⟩
abbrev cX10_kind : ByteArray := prog_1_method_3_code
def yX10_kind : MethodName := ⟨RX10, "kind", "(I)I"⟩
abbrev cX10_line : ByteArray := prog_1_method_4_code
def yX10_line : MethodName := ⟨RX10, "line", "(IIII)I"⟩
abbrev cX10_clear : ByteArray := prog_1_method_5_code
def yX10_clear : MethodName := ⟨RX10, "clear", "()I"⟩
abbrev cX10_build : ByteArray := prog_1_method_6_code
def yX10_build : MethodName := ⟨RX10, "build", "()I"⟩
abbrev cX10_address : ByteArray := prog_1_method_7_code
def yX10_address : MethodName := ⟨RX10, "address", "(I)I"⟩
abbrev cX10_length : ByteArray := prog_1_method_8_code
def yX10_length : MethodName := ⟨RX10, "length", "(I)Z"⟩
abbrev cX10_poke : ByteArray := prog_1_method_9_code
def yX10_poke : MethodName := ⟨RX10, "poke", "(II)Z"⟩
abbrev cX10_peek : ByteArray := prog_1_method_10_code
def yX10_peek : MethodName := ⟨RX10, "peek", "(I)I"⟩
abbrev cX10_check : ByteArray := prog_1_method_11_code
def yX10_check : MethodName := ⟨RX10, "check", "()I"⟩
abbrev cX10_input : ByteArray := prog_1_method_12_code
def yX10_input : MethodName := ⟨RX10, "input", "(I)I"⟩
abbrev cX10_run : ByteArray := prog_1_method_13_code
def yX10_run : MethodName := ⟨RX10, "run", "(I)I"⟩
abbrev cX10_trial : ByteArray := prog_1_method_14_code
def yX10_trial : MethodName := ⟨RX10, "trial", "(I)I"⟩
abbrev cX10_state : ByteArray := prog_1_method_15_code
def yX10_state : MethodName := ⟨RX10, "state", "(II)I"⟩
abbrev cX10_output : ByteArray := prog_1_method_16_code
def yX10_output : MethodName := ⟨RX10, "output", "(II)I"⟩
abbrev cX10_register : ByteArray := prog_1_method_17_code
def yX10_register : MethodName := ⟨RX10, "register", "(II)I"⟩
abbrev cX10_word : ByteArray := prog_1_method_18_code
def yX10_word : MethodName := ⟨RX10, "word", "(II)I"⟩
abbrev cX10_runnerOf : ByteArray := prog_1_method_19_code
def yX10_runnerOf : MethodName := ⟨RX10, "runnerOf", "(I)LFencedCode$Runner;"⟩
abbrev cX10_within : ByteArray := prog_1_method_20_code
def yX10_within : MethodName := ⟨RX10, "within", "(III)Z"⟩
def RX11 : String := "FencedCodeModel"
def TX11 : u_T := fun k => match k with
  | 0 => ("FencedCodeModel", "lines", "I", false)
  | 1 => ("FencedCodeModel", "kindOf", "[I", true)
  | 2 => ("FencedCodeModel", "first", "[I", true)
  | 3 => ("FencedCodeModel", "second", "[I", true)
  | 4 => ("FencedCodeModel", "third", "[I", true)
  | 5 => ("FencedCodeModel", "built", "I", false)
  | 6 => ("FencedCodeModel", "isBuilt", "Z", false)
  | 7 => ("FencedCodeModel", "builtKind", "[I", true)
  | 8 => ("FencedCodeModel", "builtFirst", "[I", true)
  | 9 => ("FencedCodeModel", "builtSecond", "[I", true)
  | 10 => ("FencedCodeModel", "builtThird", "[I", true)
  | 11 => ("FencedCodeModel", "addresses", "[I", true)
  | 12 => ("FencedCodeModel", "places", "[I", true)
  | 13 => ("FencedCodeModel", "laid", "[I", true)
  | 14 => ("FencedCodeModel", "size", "I", false)
  | 15 => ("FencedCodeModel", "code", "[I", true)
  | 16 => ("FencedCodeModel", "begins", "[Z", true)
  | 17 => ("FencedCodeModel", "at", "I", false)
  | 18 => ("FencedCodeModel", "inputs", "I", false)
  | 19 => ("FencedCodeModel", "input", "[I", true)
  | 20 => ("FencedCodeModel", "registers", "[I", true)
  | 21 => ("FencedCodeModel", "words", "[I", true)
  | 22 => ("FencedCodeModel", "outputs", "[I", true)
  | 23 => ("FencedCodeModel", "outputCount", "[I", true)
  | 24 => ("FencedCodeModel", "steps", "[I", true)
  | 25 => ("FencedCodeModel", "stands", "[I", true)
  | 26 => ("FencedCodeModel", "ran", "[Z", true)
  | _ => ("FencedCodeModel", "taken", "I", false)
def tyX11 : Nat → FieldType := fun k => match k with
  | 0 => .int
  | 1 => .array .int
  | 2 => .array .int
  | 3 => .array .int
  | 4 => .array .int
  | 5 => .int
  | 6 => .boolean
  | 7 => .array .int
  | 8 => .array .int
  | 9 => .array .int
  | 10 => .array .int
  | 11 => .array .int
  | 12 => .array .int
  | 13 => .array .int
  | 14 => .int
  | 15 => .array .int
  | 16 => .array .boolean
  | 17 => .int
  | 18 => .int
  | 19 => .array .int
  | 20 => .array .int
  | 21 => .array .int
  | 22 => .array .int
  | 23 => .array .int
  | 24 => .array .int
  | 25 => .array .int
  | 26 => .array .boolean
  | _ => .int
abbrev wsX110 : List Cond := u_ws RX11 TX11 28
theorem nmX11 : ∀ a, a < 28 → ∀ b, b < 28 → a ≠ b → (TX11 a).2.1 ≠ (TX11 b).2.1 := by decide +kernel
theorem tyX11_ok : ∀ k, k < 28 → parseFieldDescriptor (TX11 k).2.2.1 = some (tyX11 k) := by decide +kernel
abbrev cX11_init : ByteArray := prog_13_method_1_code
def yX11_init : MethodName := ⟨RX11, "<init>", "()V"⟩
abbrev cX11_outside : ByteArray := prog_13_method_2_code
def yX11_outside : MethodName := ⟨RX11, "outside", "(III)Z"⟩
abbrev cX11_notRegister : ByteArray := prog_13_method_3_code
def yX11_notRegister : MethodName := ⟨RX11, "notRegister", "(I)Z"⟩
abbrev cX11_typeR : ByteArray := prog_13_method_4_code
def yX11_typeR : MethodName := ⟨RX11, "typeR", "(IIIIII)I"⟩
abbrev cX11_typeI : ByteArray := prog_13_method_5_code
def yX11_typeI : MethodName := ⟨RX11, "typeI", "(IIIII)I"⟩
abbrev cX11_branch : ByteArray := prog_13_method_6_code
def yX11_branch : MethodName := ⟨RX11, "branch", "(IIII)I"⟩
abbrev cX11_jump : ByteArray := prog_13_method_7_code
def yX11_jump : MethodName := ⟨RX11, "jump", "(II)I"⟩
abbrev cX11_fits : ByteArray := prog_13_method_8_code
def yX11_fits : MethodName := ⟨RX11, "fits", "(IIII)Z"⟩
abbrev cX11_made : ByteArray := prog_13_method_9_code
def yX11_made : MethodName := ⟨RX11, "made", "(IIII)I"⟩
abbrev cX11_encode : ByteArray := prog_13_method_10_code
def yX11_encode : MethodName := ⟨RX11, "encode", "(IIII)I"⟩
abbrev cX11_fieldA : ByteArray := prog_13_method_11_code
def yX11_fieldA : MethodName := ⟨RX11, "fieldA", "(II)I"⟩
abbrev cX11_fieldB : ByteArray := prog_13_method_12_code
def yX11_fieldB : MethodName := ⟨RX11, "fieldB", "(II)I"⟩
abbrev cX11_fieldC : ByteArray := prog_13_method_13_code
def yX11_fieldC : MethodName := ⟨RX11, "fieldC", "(II)I"⟩
abbrev cX11_isLong : ByteArray := prog_13_method_14_code
def yX11_isLong : MethodName := ⟨RX11, "isLong", "(I)Z"⟩
abbrev cX11_kind : ByteArray := prog_13_method_15_code
def yX11_kind : MethodName := ⟨RX11, "kind", "(I)I"⟩
abbrev cX11_notOwn : ByteArray := prog_13_method_16_code
def yX11_notOwn : MethodName := ⟨RX11, "notOwn", "(I)Z"⟩
abbrev cX11_notTarget : ByteArray := prog_13_method_17_code
def yX11_notTarget : MethodName := ⟨RX11, "notTarget", "(I)Z"⟩
abbrev cX11_isLine : ByteArray := prog_13_method_18_code
def yX11_isLine : MethodName := ⟨RX11, "isLine", "(IIII)Z"⟩
abbrev cX11_line : ByteArray := prog_13_method_19_code
def yX11_line : MethodName := ⟨RX11, "line", "(IIII)I"⟩
abbrev cX11_clear : ByteArray := prog_13_method_20_code
def yX11_clear : MethodName := ⟨RX11, "clear", "()I"⟩
abbrev cX11_targetOf : ByteArray := prog_13_method_21_code
def yX11_targetOf : MethodName := ⟨RX11, "targetOf", "(I)I"⟩
abbrev cX11_isAimed : ByteArray := prog_13_method_22_code
def yX11_isAimed : MethodName := ⟨RX11, "isAimed", "(I)Z"⟩
abbrev cX11_sizeOf : ByteArray := prog_13_method_23_code
def yX11_sizeOf : MethodName := ⟨RX11, "sizeOf", "(I)I"⟩
abbrev cX11_ends : ByteArray := prog_13_method_24_code
def yX11_ends : MethodName := ⟨RX11, "ends", "(I)Z"⟩
abbrev cX11_rest : ByteArray := prog_13_method_25_code
def yX11_rest : MethodName := ⟨RX11, "rest", "(I)I"⟩
abbrev cX11_layOut : ByteArray := prog_13_method_26_code
def yX11_layOut : MethodName := ⟨RX11, "layOut", "()I"⟩
abbrev cX11_put : ByteArray := prog_13_method_27_code
def yX11_put : MethodName := ⟨RX11, "put", "(II)V"⟩
abbrev cX11_pad : ByteArray := prog_13_method_28_code
def yX11_pad : MethodName := ⟨RX11, "pad", "(I)V"⟩
abbrev cX11_write : ByteArray := prog_13_method_29_code
def yX11_write : MethodName := ⟨RX11, "write", "(I)V"⟩
abbrev cX11_build : ByteArray := prog_13_method_30_code
def yX11_build : MethodName := ⟨RX11, "build", "()I"⟩
abbrev cX11_address : ByteArray := prog_13_method_31_code
def yX11_address : MethodName := ⟨RX11, "address", "(I)I"⟩
abbrev cX11_length : ByteArray := prog_13_method_32_code
def yX11_length : MethodName := ⟨RX11, "length", "(I)Z"⟩
abbrev cX11_poke : ByteArray := prog_13_method_33_code
def yX11_poke : MethodName := ⟨RX11, "poke", "(II)Z"⟩
abbrev cX11_peek : ByteArray := prog_13_method_34_code
def yX11_peek : MethodName := ⟨RX11, "peek", "(I)I"⟩
abbrev cX11_byteAt : ByteArray := prog_13_method_35_code
def yX11_byteAt : MethodName := ⟨RX11, "byteAt", "(I)I"⟩
abbrev cX11_bitsAt : ByteArray := prog_13_method_36_code
def yX11_bitsAt : MethodName := ⟨RX11, "bitsAt", "(I)I"⟩
abbrev cX11_bytesOf : ByteArray := prog_13_method_37_code
def yX11_bytesOf : MethodName := ⟨RX11, "bytesOf", "(I)I"⟩
abbrev cX11_isBefore : ByteArray := prog_13_method_38_code
def yX11_isBefore : MethodName := ⟨RX11, "isBefore", "(IIZ)Z"⟩
abbrev cX11_before : ByteArray := prog_13_method_39_code
def yX11_before : MethodName := ⟨RX11, "before", "(I)I"⟩
abbrev cX11_spoils : ByteArray := prog_13_method_40_code
def yX11_spoils : MethodName := ⟨RX11, "spoils", "(II)Z"⟩
abbrev cX11_lands : ByteArray := prog_13_method_41_code
def yX11_lands : MethodName := ⟨RX11, "lands", "(I)Z"⟩
abbrev cX11_right : ByteArray := prog_13_method_42_code
def yX11_right : MethodName := ⟨RX11, "right", "(I)Z"⟩
abbrev cX11_check : ByteArray := prog_13_method_43_code
def yX11_check : MethodName := ⟨RX11, "check", "()I"⟩
abbrev cX11_input : ByteArray := prog_13_method_44_code
def yX11_input : MethodName := ⟨RX11, "input", "(I)I"⟩
abbrev cX11_anew : ByteArray := prog_13_method_45_code
def yX11_anew : MethodName := ⟨RX11, "anew", "(I)V"⟩
abbrev cX11_set : ByteArray := prog_13_method_46_code
def yX11_set : MethodName := ⟨RX11, "set", "(III)V"⟩
abbrev cX11_get : ByteArray := prog_13_method_47_code
def yX11_get : MethodName := ⟨RX11, "get", "(II)I"⟩
abbrev cX11_serve : ByteArray := prog_13_method_48_code
def yX11_serve : MethodName := ⟨RX11, "serve", "(II)V"⟩
abbrev cX11_reckon : ByteArray := prog_13_method_49_code
def yX11_reckon : MethodName := ⟨RX11, "reckon", "(IIIII)V"⟩
abbrev cX11_holds : ByteArray := prog_13_method_50_code
def yX11_holds : MethodName := ⟨RX11, "holds", "(IIII)Z"⟩
abbrev cX11_moved : ByteArray := prog_13_method_51_code
def yX11_moved : MethodName := ⟨RX11, "moved", "(IIIII)Z"⟩
abbrev cX11_step : ByteArray := prog_13_method_52_code
def yX11_step : MethodName := ⟨RX11, "step", "()I"⟩
abbrev cX11_run : ByteArray := prog_13_method_53_code
def yX11_run : MethodName := ⟨RX11, "run", "(I)I"⟩
abbrev cX11_lineAt : ByteArray := prog_13_method_54_code
def yX11_lineAt : MethodName := ⟨RX11, "lineAt", "(I)I"⟩
abbrev cX11_lineDone : ByteArray := prog_13_method_55_code
def yX11_lineDone : MethodName := ⟨RX11, "lineDone", "()I"⟩
abbrev cX11_trial : ByteArray := prog_13_method_56_code
def yX11_trial : MethodName := ⟨RX11, "trial", "(I)I"⟩
abbrev cX11_state : ByteArray := prog_13_method_57_code
def yX11_state : MethodName := ⟨RX11, "state", "(II)I"⟩
abbrev cX11_output : ByteArray := prog_13_method_58_code
def yX11_output : MethodName := ⟨RX11, "output", "(II)I"⟩
abbrev cX11_register : ByteArray := prog_13_method_59_code
def yX11_register : MethodName := ⟨RX11, "register", "(II)I"⟩
abbrev cX11_word : ByteArray := prog_13_method_60_code
def yX11_word : MethodName := ⟨RX11, "word", "(II)I"⟩
def RJ9 : String := "java/lang/Math"
def TJ9 : u_T := fun k => match k with
  | _ => ("", "", "", false)
def tyJ9 : Nat → FieldType := fun k => match k with
  | _ => .int
abbrev wsJ90 : List Cond := u_ws RJ9 TJ9 0
theorem nmJ9 : ∀ a, a < 0 → ∀ b, b < 0 → a ≠ b → (TJ9 a).2.1 ≠ (TJ9 b).2.1 := by decide +kernel
theorem tyJ9_ok : ∀ k, k < 0 → parseFieldDescriptor (TJ9 k).2.2.1 = some (tyJ9 k) := by decide +kernel
abbrev cJ9_min_7cf53 : ByteArray := prog_14_method_69_code
def yJ9_min_7cf53 : MethodName := ⟨RJ9, "min", "(II)I"⟩
def RJ10 : String := "java/lang/System"
def TJ10 : u_T := fun k => match k with
  | _ => ("", "", "", false)
def tyJ10 : Nat → FieldType := fun k => match k with
  | _ => .int
abbrev wsJ100 : List Cond := u_ws RJ10 TJ10 0
theorem nmJ10 : ∀ a, a < 0 → ∀ b, b < 0 → a ≠ b → (TJ10 a).2.1 ≠ (TJ10 b).2.1 := by decide +kernel
theorem tyJ10_ok : ∀ k, k < 0 → parseFieldDescriptor (TJ10 k).2.2.1 = some (tyJ10 k) := by decide +kernel
def RL : String := "FencedCodeLaw"
abbrev cL_law : ByteArray := code
def yL_law : MethodName := ⟨RL, "law", "([I)Z"⟩
abbrev vwCl : List vw_C := [(RX0, TX0, 4), (RX1, TX1, 2), (RX3, TX3, 2), (RX5, TX5, 9), (RX6, TX6, 8), (RX7, TX7, 3), (RX9, TX9, 9), (RX10, TX10, 9), (RX11, TX11, 28)]
end
section
/-! THE SMALL MACHINE: worlds as lists of cells, references as places in the list; a cell's address is the base and its place. -/
abbrev am_Cl : Type := (Bool × Nat × (Nat → Int32)) ⊕ (Nat × List Value)
def am_v (b : Nat) : Value → Value
  | .ref i => .ref (b + i)
  | v => v
def am_e (cI cZ : ClassId) (b : Nat) : am_Cl → va_E
  | .inl (z, n, f) => .inl (cond z cZ cI, n, .inl f)
  | .inr (c, fs) => .inr (c, fs.map (am_v b))
def am_H (D : va_G) (cI cZ : ClassId) (b : Nat) (ab : List am_Cl) (H : Heap) : Prop :=
  H.size = b + ab.length ∧ ∀ (i : Nat) (c : am_Cl), ab[i]? = some c → va_at D vwCl (b + i, am_e cI cZ b c) H
/-- the private method of the abstract class, as its two heirs select it -/
def am_ext : List Cond := [.selects RX5 yX8_forgetAll yX8_forgetAll, .selects RX9 yX8_forgetAll yX8_forgetAll]
def am_tbl : List Cond := lw_tbl ++ am_ext
def am_gw : List Cond := am_tbl.filter goodWord
def am_isb : Cond → Bool
  | .methodLinkNest .. => true
  | .declares .. => true
  | _ => false
def am_bw : List Cond := am_tbl.filter am_isb
def am_K (D : va_G) (cI cZ : ClassId) (U : State) : Prop := va_K D vwCl [(cI, .int), (cZ, .boolean)] U ∧ ∀ w ∈ am_bw, va_Nw w U
/-- a method: its name, code, locals, answer, room -/
abbrev am_Sg : Type := MethodName × ByteArray × Nat × Option FieldType × Room
abbrev am_y (S : am_Sg) : MethodName := S.1
abbrev am_c (S : am_Sg) : ByteArray := S.2.1
abbrev am_l (S : am_Sg) : Nat := S.2.2.1
abbrev am_r (S : am_Sg) : Option FieldType := S.2.2.2.1
abbrev am_rm (S : am_Sg) : Room := S.2.2.2.2
abbrev am_cw (S : am_Sg) : Cond := Cond.code (am_y S) (am_c S) (am_l S) (am_r S)
def am_Q (D : va_G) (cI cZ : ClassId) (b : Nat) (r : Option Value) (ab' : List am_Cl) : Array Value → State → Outcome → State → Prop := fun _ st o t => o = .returned (r.map (am_v b)) ∧ am_H D cI cZ b ab' t.heap ∧ va_F (fun q => b ≤ q) st t
def am_Ev (S : am_Sg) (as : List Value) (ab : List am_Cl) (r : Option Value) (ab' : List am_Cl) : Prop :=
  am_cw S ∈ am_gw ∧ ∀ (l : Launch) (D : va_G) (cI cZ : ClassId) (b : Nat), Met l (am_y S) (am_cw S :: am_gw) (am_rm S) (fun a U => a = (as.map (am_v b)).toArray ∧ am_H D cI cZ b ab U.heap ∧ am_K D cI cZ U) (am_Q D cI cZ b r ab') (am_rm S).cells (am_rm S).slots (fun q => b ≤ q)
def am_Cx (S : am_Sg) (D : va_G) (cI cZ : ClassId) (b : Nat) (p : Program) (s : State) (m : MethodId) (args : Array Value) (meth : Method) (c : Code) : Prop :=
  p.tables.exec = Jvm.exec ∧ c.code = am_c S ∧ meth.sig.returnType = am_r S ∧ meth.locks = false ∧ c.maxLocals = am_l S ∧ s.vm.findClass (am_y S).cls = some m.cls ∧ meth.name = (am_y S).name ∧ (∀ w ∈ am_gw, w.before args s = true) ∧ am_K D cI cZ s ∧ b ≤ s.heap.size
/-- locals: what is known of them -/
def am_ok : Value → Bool
  | .int _ => true
  | .ref _ => true
  | .null => true
  | _ => false
def am_lv (b : Nat) (L : List Value) : List (Nat × Value) := (L.zipIdx.filter (fun q => am_ok q.1)).map (fun q => (q.2, am_v b q.1))
def am_T (S : am_Sg) (r : Option Value) (ab' : List am_Cl) (pc : Nat) (L st : List Value) (ab : List am_Cl) (k n : Nat) : Prop :=
  ∀ (l : Launch) (D : va_G) (cI cZ : ClassId) (b : Nat) (p : Program) (e : Env) (s : State) (m : MethodId) (args : Array Value) (below : List Frame) (meth : Method) (c : Code) (H : Heap) (locs : List Loc) (ls : Array Slot),
    am_Cx S D cI cZ b p s m args meth c → am_H D cI cZ b ab H → va_S (fun q => b ≤ q) s.heap H locs → lv_has ls (am_l S) (am_lv b L) → L.length = am_l S →
    W p l e (am_rm S) s m args below meth c H locs k n (MQ below (am_Q D cI cZ b r ab') args s (am_rm S).cells (am_rm S).slots (fun q => b ≤ q)) (F0 m pc ls (st.map (am_v b)))
/-- a row: the instruction, a number, a literal, a name, classes, callees by class, a switch's targets, places of words -/
abbrev am_Rw : Type := Instr × Nat × Int32 × String × List Nat × List (Nat × am_Sg) × List (Int32 × Nat) × List Nat
abbrev rw0 (i : Instr) : am_Rw := (i, 0, 0, "", [], [], [], [])
abbrev rwN (i : Instr) (k : Nat) : am_Rw := (i, k, 0, "", [], [], [], [])
abbrev rwL (i : Instr) (v : Int32) : am_Rw := (i, 0, v, "", [], [], [], [])
abbrev rwA (i : Instr) (k : Nat) (v : Int32) : am_Rw := (i, k, v, "", [], [], [], [])
abbrev rwP (i : Instr) (v : Int32) (ps : List Nat) : am_Rw := (i, 0, v, "", [], [], [], ps)
abbrev rwF (i : Instr) (k : Nat) (v : Int32) (r : String) (cs : List Nat) (ps : List Nat) : am_Rw := (i, k, v, r, cs, [], [], ps)
abbrev rwC (i : Instr) (k : Nat) (r : String) (qs : List (Nat × am_Sg)) (ps : List Nat) : am_Rw := (i, k, 0, r, [], qs, [], ps)
abbrev rwS (i : Instr) (d : Nat) (sw : List (Int32 × Nat)) : am_Rw := (i, d, 0, "", [], [], sw, [])
abbrev w_k (w : am_Rw) : Nat := w.2.1
abbrev w_v (w : am_Rw) : Int32 := w.2.2.1
abbrev w_r (w : am_Rw) : String := w.2.2.2.1
abbrev w_cs (w : am_Rw) : List Nat := w.2.2.2.2.1
abbrev w_qs (w : am_Rw) : List (Nat × am_Sg) := w.2.2.2.2.2.1
abbrev w_sw (w : am_Rw) : List (Int32 × Nat) := w.2.2.2.2.2.2.1
abbrev w_ps (w : am_Rw) : List Nat := w.2.2.2.2.2.2.2
abbrev am_Cd : Type := List (Nat × List (Nat × am_Rw))
def am_fr (pc : Nat) : List (Nat × am_Rw) → Option (Nat × am_Rw)
  | [] => none
  | q :: l => cond (Nat.beq q.1 pc) (some q) (am_fr pc l)
def am_lk (pc : Nat) : am_Cd → Option (Nat × am_Rw)
  | [] => none
  | q :: l => cond (Nat.blt pc q.1) (am_fr pc q.2) (am_lk pc l)
abbrev am_Ps : Type := Nat → List Value → List Value → List am_Cl → Nat → Nat → Prop
/-- forward: walk on; backward: stop -/
def am_go (K Tt : am_Ps) (pc t : Nat) (L st : List Value) (ab : List am_Cl) (k n : Nat) : Prop := cond (Nat.blt pc t) (K t L st ab k n) (Tt t L st ab k n)
def am_br (c : Prop) (A B : Prop) : Prop := (c → A) ∧ (¬ c → B)
def am_sw (K Tt : am_Ps) (pc d : Nat) (x : Int32) (L st : List Value) (ab : List am_Cl) (k n : Nat) : List (Int32 × Nat) → Prop
  | [] => am_go K Tt pc d L st ab k n
  | q :: l => am_br (x = q.1) (am_go K Tt pc q.2 L st ab k n) (am_sw K Tt pc d x L st ab k n l)
def am_ic (c : ClassFile.Cond) (x y : Int32) (A B : Prop) : Prop := match c with
  | .eq => am_br (x = y) A B
  | .ne => am_br (x = y) B A
  | .lt => am_br (x < y) A B
  | .ge => am_br (y ≤ x) A B
  | .gt => am_br (y < x) A B
  | .le => am_br (x ≤ y) A B
def am_ls : List am_Cl → Nat → Option am_Cl
  | [], _ => none
  | c :: _, 0 => some c
  | _ :: l, i + 1 => am_ls l i
def am_up : List am_Cl → Nat → am_Cl → List am_Cl
  | [], _, _ => []
  | _ :: l, 0, d => d :: l
  | c :: l, i + 1, d => c :: am_up l i d
def am_vs : List Value → Nat → Option Value
  | [], _ => none
  | c :: _, 0 => some c
  | _ :: l, i + 1 => am_vs l i
def am_vu : List Value → Nat → Value → List Value
  | [], _, _ => []
  | _ :: l, 0, d => d :: l
  | c :: l, i + 1, d => c :: am_vu l i d
def am_cl : List (Nat × am_Sg) → Nat → Option am_Sg
  | [], _ => none
  | q :: l, c => cond (Nat.beq q.1 c) (some q.2) (am_cl l c)
def am_in : List Nat → Nat → Bool
  | [], _ => false
  | q :: l, c => cond (Nat.beq q c) true (am_in l c)
def am_tk : Nat → List Value → List Value → Option (List Value × List Value)
  | 0, acc, st => some (acc, st)
  | n + 1, acc, v :: st => am_tk n (v :: acc) st
  | _ + 1, _, [] => none
def am_ct : List Value → Nat
  | [] => 0
  | v :: l => v.category + am_ct l
/-- the default cells of a class's objects -/
def am_df : Nat → List Value
  | 0 => [.null, .int 0, .int 0, .null]
  | 1 => [.null, .int 0]
  | 2 => [.null, .int 0]
  | 3 => [.null, .null, .null, .null, .int 0, .int 0, .int 0, .int 0, .null]
  | 4 => [.null, .null, .null, .null, .null, .null, .int 0, .int 0]
  | 5 => [.null, .null, .int 0]
  | 6 => [.null, .null, .null, .null, .int 0, .int 0, .int 0, .int 0, .null]
  | 7 => [.null, .null, .null, .null, .null, .null, .null, .null, .int 0]
  | 8 => (List.range 28).map (fun j => match tyX11 j with | .int => .int 0 | .boolean => .int 0 | _ => .null)
  | _ => []
/-- a value that a field of this sort may get -/
def am_fv (sort : Int32) : Value → Bool
  | .int x => decide (sort = 0) || (decide (sort = 1) && (decide (x = 0) || decide (x = 1)))
  | .ref _ => decide (sort = 2)
  | .null => decide (sort = 2)
  | _ => false
/-- a call: what the callee's contract gives -/
def am_cal (S q : am_Sg) (K : am_Ps) (pc : Nat) (as : List Value) (L rest : List Value) (ab : List am_Cl) (k n : Nat) : Prop :=
  cond (Nat.ble (am_ct rest) 8 && Nat.ble (k + (am_rm q).cells) (am_rm S).cells && Nat.ble (n + (am_rm q).slots) (am_rm S).slots)
    (∃ (v : Option Value) (ab1 : List am_Cl), am_Ev q as ab v ab1 ∧ cond (Nat.beq (am_rm q).cells 0 && Nat.beq (am_rm q).slots 0) (K pc L (v.toList ++ rest) ab1 k n) (K pc L (v.toList ++ rest) ab1 (k + (am_rm q).cells) (n + (am_rm q).slots)))
    False
/-- one instruction -/
def am_s1 (S : am_Sg) (r : Option Value) (ab' : List am_Cl) (Tt K : am_Ps) (w : am_Rw) : am_Ps := fun pc L st ab k n => match w.1 with
  | .iconst _ => K (pc + 1) L (.int (w_v w) :: st) ab k n
  | .bipush _ => K (pc + 2) L (.int (w_v w) :: st) ab k n
  | .sipush _ => K (pc + 3) L (.int (w_v w) :: st) ab k n
  | .ldc _ => K (pc + 2) L (.int (w_v w) :: st) ab k n
  | .iload_n i => match am_vs L i.val with
    | some (.int x) => K (pc + 1) L (.int x :: st) ab k n
    | _ => False
  | .iload i => match am_vs L i with
    | some (.int x) => K (pc + 2) L (.int x :: st) ab k n
    | _ => False
  | .aload_n i => match am_vs L i.val with
    | some (.ref x) => K (pc + 1) L (.ref x :: st) ab k n
    | some .null => K (pc + 1) L (.null :: st) ab k n
    | _ => False
  | .istore_n i => match st with
    | .int x :: rest => match am_vs L i.val with
      | some _ => K (pc + 1) (am_vu L i.val (.int x)) rest ab k n
      | none => False
    | _ => False
  | .istore i => match st with
    | .int x :: rest => match am_vs L i with
      | some _ => K (pc + 2) (am_vu L i (.int x)) rest ab k n
      | none => False
    | _ => False
  | .astore_n i => match st with
    | .ref x :: rest => match am_vs L i.val with
      | some _ => K (pc + 1) (am_vu L i.val (.ref x)) rest ab k n
      | none => False
    | .null :: rest => match am_vs L i.val with
      | some _ => K (pc + 1) (am_vu L i.val .null) rest ab k n
      | none => False
    | _ => False
  | .iinc i _ => match am_vs L i with
    | some (.int x) => K (pc + 3) (am_vu L i (.int (x + w_v w))) st ab k n
    | _ => False
  | .iadd => match st with
    | .int y :: .int x :: rest => K (pc + 1) L (.int (x + y) :: rest) ab k n
    | _ => False
  | .isub => match st with
    | .int y :: .int x :: rest => K (pc + 1) L (.int (x - y) :: rest) ab k n
    | _ => False
  | .imul => match st with
    | .int y :: .int x :: rest => K (pc + 1) L (.int (x * y) :: rest) ab k n
    | _ => False
  | .idiv => match st with
    | .int y :: .int x :: rest => cond (decide (y = 0)) False (K (pc + 1) L (.int (x / y) :: rest) ab k n)
    | _ => False
  | .irem => match st with
    | .int y :: .int x :: rest => cond (decide (y = 0)) False (K (pc + 1) L (.int (x - x / y * y) :: rest) ab k n)
    | _ => False
  | .iand => match st with
    | .int y :: .int x :: rest => K (pc + 1) L (.int (x &&& y) :: rest) ab k n
    | _ => False
  | .ior => match st with
    | .int y :: .int x :: rest => K (pc + 1) L (.int (x ||| y) :: rest) ab k n
    | _ => False
  | .ishl => match st with
    | .int y :: .int x :: rest => K (pc + 1) L (.int (x <<< (y &&& 31)) :: rest) ab k n
    | _ => False
  | .ishr => match st with
    | .int y :: .int x :: rest => K (pc + 1) L (.int (x >>> (y &&& 31)) :: rest) ab k n
    | _ => False
  | .iushr => match st with
    | .int y :: .int x :: rest => K (pc + 1) L (.int (x.toUInt32 >>> (y.toUInt32 &&& Int32.toUInt32 31)).toInt32 :: rest) ab k n
    | _ => False
  | .dup => match st with
    | v :: rest => cond (am_ok v) (K (pc + 1) L (v :: v :: rest) ab k n) False
    | _ => False
  | .dup2 => match st with
    | u :: v :: rest => cond (am_ok u && am_ok v) (K (pc + 1) L (u :: v :: u :: v :: rest) ab k n) False
    | _ => False
  | .pop => match st with
    | v :: rest => cond (am_ok v) (K (pc + 1) L rest ab k n) False
    | _ => False
  | .aconst_null => K (pc + 1) L (.null :: st) ab k n
  | .if_icmp c _ => match st with
    | .int y :: .int x :: rest => am_ic c x y (am_go K Tt pc (w_k w) L rest ab k n) (K (pc + 3) L rest ab k n)
    | _ => False
  | .ifCond c _ => match st with
    | .int x :: rest => am_ic c x 0 (am_go K Tt pc (w_k w) L rest ab k n) (K (pc + 3) L rest ab k n)
    | _ => False
  | .ifnonnull _ => match st with
    | .ref _ :: rest => am_go K Tt pc (w_k w) L rest ab k n
    | .null :: rest => K (pc + 3) L rest ab k n
    | _ => False
  | .goto _ => am_go K Tt pc (w_k w) L st ab k n
  | .tableswitch _ _ _ _ => match st with
    | .int x :: rest => am_sw K Tt pc (w_k w) x L rest ab k n (w_sw w)
    | _ => False
  | .lookupswitch _ _ => match st with
    | .int x :: rest => am_sw K Tt pc (w_k w) x L rest ab k n (w_sw w)
    | _ => False
  | .getfield _ => match st with
    | .ref i :: rest => match am_ls ab i with
      | some (.inr (ci, fs)) => cond (am_in (w_cs w) ci) (match am_vs fs (w_k w) with
        | some v => K (pc + 3) L (v :: rest) ab k n
        | none => False) False
      | _ => False
    | _ => False
  | .putfield _ => match st with
    | v :: .ref i :: rest => match am_ls ab i with
      | some (.inr (ci, fs)) => cond (am_in (w_cs w) ci && am_fv (w_v w) v) (match am_vs fs (w_k w) with
        | some _ => K (pc + 3) L rest (am_up ab i (.inr (ci, am_vu fs (w_k w) v))) k n
        | none => False) False
      | _ => False
    | _ => False
  | .iaload => match st with
    | .int j :: .ref i :: rest => match am_ls ab i with
      | some (.inl (false, N, f)) => vp_in j N ∧ K (pc + 1) L (.int (f j.toNatClampNeg) :: rest) ab k n
      | _ => False
    | _ => False
  | .iastore => match st with
    | .int x :: .int j :: .ref i :: rest => match am_ls ab i with
      | some (.inl (false, N, f)) => vp_in j N ∧ K (pc + 1) L rest (am_up ab i (.inl (false, N, upd f j.toNatClampNeg x))) k n
      | _ => False
    | _ => False
  | .baload => match st with
    | .int j :: .ref i :: rest => match am_ls ab i with
      | some (.inl (true, N, f)) => vp_in j N ∧ K (pc + 1) L (.int (f j.toNatClampNeg) :: rest) ab k n
      | _ => False
    | _ => False
  | .bastore => match st with
    | .int x :: .int j :: .ref i :: rest => match am_ls ab i with
      | some (.inl (true, N, f)) => vp_in j N ∧ K (pc + 1) L rest (am_up ab i (.inl (true, N, upd f j.toNatClampNeg (vp_nar .boolean x)))) k n
      | _ => False
    | _ => False
  | .newarray t => match st with
    | .int c :: rest => cond (decide (c = w_v w) && Nat.ble (k + 1) (am_rm S).cells && Nat.ble (n + w_k w) (am_rm S).slots) (K (pc + 2) L (.ref ab.length :: rest) (ab ++ [.inl (decide (t = .boolean), w_k w, fun _ => 0)]) (k + 1) (n + w_k w)) False
    | _ => False
  | .new _ => cond (Nat.ble (k + 1) (am_rm S).cells && Nat.ble (n + (am_df (w_k w)).length) (am_rm S).slots) (K (pc + 3) L (.ref ab.length :: st) (ab ++ [.inr (w_k w, am_df (w_k w))]) (k + 1) (n + (am_df (w_k w)).length)) False
  | .invokestatic _ => match w_qs w with
    | q :: _ => match am_tk (w_k w) [] st with
      | some (as, rest) => am_cal S q.2 K (pc + 3) as L rest ab k n
      | none => False
    | [] => match w_cs w with
      | [] => match st with
        | .int y :: .int x :: rest => cond (Nat.ble (am_ct rest) 8 && Nat.ble k (am_rm S).cells && Nat.ble n (am_rm S).slots) (K (pc + 3) L (.int (if y < x then y else x) :: rest) ab k n) False
        | _ => False
      | _ => match st with
        | .int c :: .int dp :: .ref a1 :: .int sp :: .ref a0 :: rest => match am_ls ab a0, am_ls ab a1 with
          | some (.inl (false, n0, f)), some (.inl (false, n1, g)) => cond (Nat.ble (am_ct rest) 8 && decide (c = w_v w) && decide (dp = 0) && decide (sp = 0) && Nat.ble (w_k w) n0 && Nat.ble (w_k w) n1) (K (pc + 3) L rest (am_up ab a1 (.inl (false, n1, va_cpy f g 0 0 (w_k w)))) k n) False
          | _, _ => False
        | _ => False
  | .invokevirtual _ => match am_tk (w_k w) [] st with
    | some (as, .ref i :: rest) => match am_ls ab i with
      | some (.inr (ci, _)) => match am_cl (w_qs w) ci with
        | some q => am_cal S q K (pc + 3) (.ref i :: as) L rest ab k n
        | none => False
      | _ => False
    | _ => False
  | .invokespecial _ => match w_qs w with
    | q :: _ => match am_tk (w_k w) [] st with
      | some (as, .ref i :: rest) => am_cal S q.2 K (pc + 3) (.ref i :: as) L rest ab k n
      | _ => False
    | [] => match st with
      | .ref _ :: rest => cond (Nat.ble (am_ct rest) 8) (K (pc + 3) L rest ab k n) False
      | _ => False
  | .ireturn => match st with
    | [.int x] => cond (Nat.ble k (am_rm S).cells && Nat.ble n (am_rm S).slots) (r = some (.int x) ∧ ab' = ab ∧ ∃ ty, am_r S = some ty ∧ narrow ty (.int x) = .int x) False
    | _ => False
  | .return_ => match st with
    | [] => cond (Nat.ble k (am_rm S).cells && Nat.ble n (am_rm S).slots) (r = none ∧ ab' = ab ∧ am_r S = none) False
    | _ => False
  | .areturn => match st with
    | [v] => cond (Nat.ble k (am_rm S).cells && Nat.ble n (am_rm S).slots && am_fv 2 v) (r = some v ∧ ab' = ab ∧ ∃ nm, am_r S = some (.object nm)) False
    | _ => False
  | _ => False
def am_wp (S : am_Sg) (cd : am_Cd) (r : Option Value) (ab' : List am_Cl) : Nat → am_Ps
  | 0 => am_T S r ab'
  | f + 1 => fun pc L st ab k n => match am_lk pc cd with
    | some q => am_s1 S r ab' (am_T S r ab') (am_wp S cd r ab' f) q.2 q.1 L st ab k n
    | none => False
end
section
/-! soundness of the small machine: lists, locals, worlds -/
theorem am_vs_eq : ∀ (L : List Value) (i : Nat), am_vs L i = L[i]?
  | [], i => by simp [am_vs]
  | c :: l, 0 => by simp [am_vs]
  | c :: l, i + 1 => by rw [am_vs, am_vs_eq l i]; simp
theorem am_vu_eq : ∀ (L : List Value) (i : Nat) (v : Value), am_vu L i v = L.set i v
  | [], i, v => by simp [am_vu]
  | c :: l, 0, v => by simp [am_vu]
  | c :: l, i + 1, v => by rw [am_vu, am_vu_eq l i v]; simp
theorem am_ls_eq : ∀ (L : List am_Cl) (i : Nat), am_ls L i = L[i]?
  | [], i => by simp [am_ls]
  | c :: l, 0 => by simp [am_ls]
  | c :: l, i + 1 => by rw [am_ls, am_ls_eq l i]; simp
theorem am_up_eq : ∀ (L : List am_Cl) (i : Nat) (v : am_Cl), am_up L i v = L.set i v
  | [], i, v => by simp [am_up]
  | c :: l, 0, v => by simp [am_up]
  | c :: l, i + 1, v => by rw [am_up, am_up_eq l i v]; simp
theorem am_cl_mem : ∀ {l : List (Nat × am_Sg)} {c : Nat} {q : am_Sg}, am_cl l c = some q → (c, q) ∈ l
  | [], c, q, h => by simp [am_cl] at h
  | a :: l, c, q, h => by
    rw [am_cl] at h
    cases hb : Nat.beq a.1 c with
    | true =>
      rw [hb] at h
      have e : a.1 = c := Nat.eq_of_beq_eq_true hb
      have e2 : a.2 = q := by simpa using h
      rw [← e, ← e2]
      exact List.mem_cons_self
    | false =>
      rw [hb] at h
      exact List.mem_cons_of_mem _ (am_cl_mem (by simpa using h))
theorem am_in_mem : ∀ {l : List Nat} {c : Nat}, am_in l c = true → c ∈ l
  | [], c, h => by simp [am_in] at h
  | a :: l, c, h => by
    rw [am_in] at h
    cases hb : Nat.beq a c with
    | true => rw [Nat.eq_of_beq_eq_true hb]; exact List.mem_cons_self
    | false => rw [hb] at h; exact List.mem_cons_of_mem _ (am_in_mem (by simpa using h))
theorem am_tk_eq : ∀ {n : Nat} {acc st as rest : List Value}, am_tk n acc st = some (as, rest) → ∃ us, us.length = n ∧ st = us ++ rest ∧ as = us.reverse ++ acc
  | 0, acc, st, as, rest, h => by
    simp [am_tk] at h
    exact ⟨[], rfl, by simp [h.2], by simp [h.1]⟩
  | n + 1, acc, [], as, rest, h => by simp [am_tk] at h
  | n + 1, acc, v :: st, as, rest, h => by
    rw [am_tk] at h
    obtain ⟨us, h1, h2, h3⟩ := am_tk_eq h
    exact ⟨v :: us, by simp [h1], by simp [h2], by simp [h3]⟩
theorem am_tk_len {n : Nat} {st as rest : List Value} (h : am_tk n [] st = some (as, rest)) : as.length = n ∧ st = as.reverse ++ rest := by
  obtain ⟨us, h1, h2, h3⟩ := am_tk_eq h
  simp at h3
  subst h3
  simp [h1, h2]
theorem am_v_cat (b : Nat) (v : Value) : (am_v b v).category = v.category := by cases v <;> rfl
theorem am_ct_eq (b : Nat) : ∀ st : List Value, ((st.map (am_v b)).map fun v => v.category).sum = am_ct st
  | [] => rfl
  | v :: l => by
    have := am_ct_eq b l
    simp only [List.map_cons, List.sum_cons, am_ct, am_v_cat] at this ⊢
    omega
theorem am_ok_cat {v : Value} (h : am_ok v = true) : v.category = 1 := by cases v <;> simp_all [am_ok, Value.category]
theorem am_lv_mem {b : Nat} {L : List Value} {i : Nat} {v : Value} (h : L[i]? = some v) (ho : am_ok v = true) : (i, am_v b v) ∈ am_lv b L := by
  refine List.mem_map.mpr ⟨(v, i), List.mem_filter.mpr ⟨?_, ho⟩, rfl⟩
  exact List.mk_mem_zipIdx_iff_getElem?.mpr h
theorem am_lv_inv {b : Nat} {L : List Value} {q : Nat × Value} (h : q ∈ am_lv b L) : ∃ v, L[q.1]? = some v ∧ am_ok v = true ∧ q.2 = am_v b v := by
  obtain ⟨⟨v, i⟩, h1, rfl⟩ := List.mem_map.mp h
  obtain ⟨h2, h3⟩ := List.mem_filter.mp h1
  exact ⟨v, List.mk_mem_zipIdx_iff_getElem?.mp h2, h3, rfl⟩
theorem am_lget {b nL : Nat} {ls : Array Slot} {L : List Value} (h : lv_has ls nL (am_lv b L)) {i : Nat} {v : Value} (hv : am_vs L i = some v) (ho : am_ok v = true) : ls[i]? = some (.val (am_v b v)) := by
  rw [am_vs_eq] at hv
  exact h.2.2 (i, am_v b v) (am_lv_mem hv ho)
theorem am_lput {b nL : Nat} {ls : Array Slot} {L : List Value} {i : Nat} {v u : Value} (hu : am_vs L i = some u) (ho : am_ok v = true)
    (h : lv_has ls nL ((i, am_v b v) :: (am_lv b L).filter (fun q => !(q.1 == i) && !(q.1 + 1 == i && q.2.category == 2)))) : lv_has ls nL (am_lv b (am_vu L i v)) := by
  refine ⟨h.1, h.2.1, fun q hq => h.2.2 q ?_⟩
  rw [am_vu_eq] at hq
  rw [am_vs_eq] at hu
  have hi : i < L.length := (List.getElem?_eq_some_iff.mp hu).1
  obtain ⟨w, h1, h2, h3⟩ := am_lv_inv hq
  by_cases hj : q.1 = i
  · rw [hj, List.getElem?_set_self hi] at h1
    cases h1
    have : q = (i, am_v b v) := by rw [← hj, ← h3]
    rw [this]
    exact List.mem_cons_self
  · rw [List.getElem?_set_ne (Ne.symm hj)] at h1
    refine List.mem_cons_of_mem _ (List.mem_filter.mpr ⟨?_, ?_⟩)
    · have : q = (q.1, am_v b w) := by rw [← h3]
      rw [this]
      exact am_lv_mem h1 h2
    · have h4 : q.2.category = 1 := by rw [h3, am_v_cat, am_ok_cat h2]
      simp [hj, h4]
theorem am_vu_len {L : List Value} {i : Nat} {v : Value} {n : Nat} (h : L.length = n) : (am_vu L i v).length = n := by rw [am_vu_eq]; simp [h]
/-- words -/
theorem am_mem {i : Nat} {w : Cond} (h : am_tbl[i]? = some w) (hg : goodWord w = true) : w ∈ am_gw := List.mem_filter.mpr ⟨List.mem_of_getElem? h, hg⟩
theorem am_memb {i : Nat} {w : Cond} (h : am_tbl[i]? = some w) (hg : am_isb w = true) : w ∈ am_bw := List.mem_filter.mpr ⟨List.mem_of_getElem? h, hg⟩
theorem am_good {c : Cond} (hc : c ∈ am_gw) : GoodIn am_gw (c :: am_gw) := by
  intro w hw
  have h : w ∈ am_gw := by
    rcases List.mem_cons.mp hw with h | h
    · rw [h]; exact hc
    · exact h
  exact ⟨h, good_of_word (List.mem_filter.mp h).2⟩
theorem am_K_warm {D : va_G} {cI cZ : ClassId} {s U : State} (hW : s.WarmedH U.vm) (h : am_K D cI cZ s) : am_K D cI cZ U := by
  refine ⟨va_K.moved hW.alike h.1, fun w hw => ?_⟩
  have h1 := h.2 w hw
  have h4 := (List.mem_filter.mp hw).2
  cases w <;> first | exact va_Nw.warmM hW h1 | exact va_Nw.warmD hW h1 | (simp [am_isb] at h4; done)
theorem am_bw_tab {w : Cond} (hw : w ∈ am_bw) : w.onTables = true := by
  have h4 := (List.mem_filter.mp hw).2
  cases w <;> first | rfl | (simp [am_isb] at h4; done)
theorem am_K_call {D : va_G} {cI cZ : ClassId} {U V : State} (hv : U.vm = V.vm) (h : am_K D cI cZ U) : am_K D cI cZ V := by
  refine ⟨va_K.moved (by rw [← hv]; exact Vm.Alike.refl U.vm) h.1, fun w hw => ?_⟩
  exact va_Nw.same (am_bw_tab hw) hv (h.2 w hw)
/-- the world as the kit has it -/
def am_ws (cI cZ : ClassId) (b : Nat) (ab : List am_Cl) : va_W := ab.mapIdx (fun i c => (b + i, am_e cI cZ b c))
theorem am_ws_at {cI cZ : ClassId} {b : Nat} {ab : List am_Cl} {i : Nat} {c : am_Cl} (h : ab[i]? = some c) : (am_ws cI cZ b ab)[i]? = some (b + i, am_e cI cZ b c) := by
  unfold am_ws
  rw [List.getElem?_mapIdx, h]
  rfl
theorem am_P {D : va_G} {cI cZ : ClassId} {b : Nat} {ab : List am_Cl} {H : Heap} (h : am_H D cI cZ b ab H) : va_P D vwCl (am_ws cI cZ b ab) H := by
  intro k q hk
  unfold am_ws at hk
  rw [List.getElem?_mapIdx] at hk
  cases hc : ab[k]? with
  | none => rw [hc] at hk; cases hk
  | some c =>
    rw [hc] at hk
    cases hk
    exact h.2 k c hc
/-- a cell is written -/
theorem am_H_set {D : va_G} {cI cZ : ClassId} {b : Nat} {ab : List am_Cl} {H H1 : Heap} {i : Nat} {c0 c : am_Cl} (h : am_H D cI cZ b ab H) (hi : am_ls ab i = some c0) (hz : H1.size = H.size) (hc : va_at D vwCl (b + i, am_e cI cZ b c) H1) (oq : ∀ q, q ≠ b + i → H1[q]? = H[q]?) : am_H D cI cZ b (am_up ab i c) H1 := by
  rw [am_ls_eq] at hi
  have hl := (List.getElem?_eq_some_iff.mp hi).1
  rw [am_up_eq]
  refine ⟨by rw [hz, h.1]; simp, fun j d hj => ?_⟩
  by_cases hij : j = i
  · subst hij
    rw [List.getElem?_set_self hl] at hj
    cases hj
    exact hc
  · rw [List.getElem?_set_ne (Ne.symm hij)] at hj
    exact (h.2 j d hj).kept (oq _ (by show b + j ≠ b + i; omega))
/-- a cell is made -/
theorem am_H_new {D : va_G} {cI cZ : ClassId} {b : Nat} {ab : List am_Cl} {H H1 : Heap} {c : am_Cl} (h : am_H D cI cZ b ab H) (hz : H1.size = H.size + 1) (hc : va_at D vwCl (b + ab.length, am_e cI cZ b c) H1) (oq : ∀ q, q < H.size → H1[q]? = H[q]?) : am_H D cI cZ b (ab ++ [c]) H1 := by
  refine ⟨by rw [hz, h.1]; simp; omega, fun j d hj => ?_⟩
  by_cases hl : j < ab.length
  · rw [List.getElem?_append_left hl] at hj
    exact (h.2 j d hj).kept (oq _ (by rw [h.1]; show b + j < _; omega))
  · rw [List.getElem?_append_right (by omega)] at hj
    have hz2 : j - ab.length < 1 := (List.getElem?_eq_some_iff.mp hj).1
    have e : j = ab.length := by omega
    subst e
    simp at hj
    subst hj
    exact hc
theorem am_S_put {b : Nat} {H0 H H1 : Heap} {locs : List Loc} {i k : Nat} (h : va_S (fun q => b ≤ q) H0 H locs) (z : H1.size = H.size) (oq : ∀ q : Nat, q ≠ b + i → H1[q]? = H[q]?) : va_S (fun q => b ≤ q) H0 H1 (locs ++ [⟨b + i, k⟩]) := h.put z oq (Nat.le_add_right b i)
theorem am_S_new {b : Nat} {H0 H H1 : Heap} {locs : List Loc} (h : va_S (fun q => b ≤ q) H0 H locs) (z : H1.size = H.size + 1) (oq : ∀ q : Nat, q < H.size → H1[q]? = H[q]?) : va_S (fun q => b ≤ q) H0 H1 locs := ⟨by have := h.1; omega, fun q h1 h2 => by rw [oq q (Nat.lt_of_lt_of_le h1 h.1)]; exact h.2.1 q h1 h2, h.2.2⟩
end
section
/-! soundness of the small machine: an instruction, a row -/
section AMI
variable {S : am_Sg} {r : Option Value} {ab' : List am_Cl} {pc : Nat} {L rest : List Value} {ab : List am_Cl} {k n : Nat}
theorem am_t_iconst {i : Int} {v : Int32} (hd : decode (am_c S) pc = .ok (.iconst i, 1)) (hv : Int32.ofInt i = v) (hk : am_T S r ab' (pc + 1) L (.int v :: rest) ab k n) : am_T S r ab' pc L (rest) ab k n := by
  intro l D cI cZ b p e s m args below meth c H locs ls hC hH hS hL hlen
  exact lv_iconst hC.1 hC.2.1 hd hv (hk l D cI cZ b p e s m args below meth c H locs ls hC hH hS hL hlen)
theorem am_t_bipush {i : Int} {v : Int32} (hd : decode (am_c S) pc = .ok (.bipush i, 2)) (hv : (Int8.ofInt i).toInt32 = v) (hk : am_T S r ab' (pc + 2) L (.int v :: rest) ab k n) : am_T S r ab' pc L (rest) ab k n := by
  intro l D cI cZ b p e s m args below meth c H locs ls hC hH hS hL hlen
  exact lv_bipush hC.1 hC.2.1 hd hv (hk l D cI cZ b p e s m args below meth c H locs ls hC hH hS hL hlen)
theorem am_t_sipush {i : Int} {v : Int32} (hd : decode (am_c S) pc = .ok (.sipush i, 3)) (hv : (Int16.ofInt i).toInt32 = v) (hk : am_T S r ab' (pc + 3) L (.int v :: rest) ab k n) : am_T S r ab' pc L (rest) ab k n := by
  intro l D cI cZ b p e s m args below meth c H locs ls hC hH hS hL hlen
  exact lv_sipush hC.1 hC.2.1 hd hv (hk l D cI cZ b p e s m args below meth c H locs ls hC hH hS hL hlen)
theorem am_t_ldc {i : Nat} {v : Int32} (hd : decode (am_c S) pc = .ok (.ldc i, 2)) (hw : Cond.constant (am_y S).cls i v ∈ am_gw) (hk : am_T S r ab' (pc + 2) L (.int v :: rest) ab k n) : am_T S r ab' pc L (rest) ab k n := by
  intro l D cI cZ b p e s m args below meth c H locs ls hC hH hS hL hlen
  exact lv_ldc hC.1 hC.2.1 hC.2.2.2.2.2.1 (hC.2.2.2.2.2.2.2.1 _ hw) hd (hk l D cI cZ b p e s m args below meth c H locs ls hC hH hS hL hlen)
theorem am_t_iload_n {i : Fin 4} {x : Int32} (hd : decode (am_c S) pc = .ok (.iload_n i, 1)) (hx : am_vs L i.val = some (.int x)) (hk : am_T S r ab' (pc + 1) L (.int x :: rest) ab k n) : am_T S r ab' pc L (rest) ab k n := by
  intro l D cI cZ b p e s m args below meth c H locs ls hC hH hS hL hlen
  exact lv_iload_n hC.1 hC.2.1 hd rfl (am_lget hL hx rfl) (hk l D cI cZ b p e s m args below meth c H locs ls hC hH hS hL hlen)
theorem am_t_iload {i : Nat} {x : Int32} (hd : decode (am_c S) pc = .ok (.iload i, 2)) (hx : am_vs L i = some (.int x)) (hk : am_T S r ab' (pc + 2) L (.int x :: rest) ab k n) : am_T S r ab' pc L (rest) ab k n := by
  intro l D cI cZ b p e s m args below meth c H locs ls hC hH hS hL hlen
  exact lv_iload hC.1 hC.2.1 hd (am_lget hL hx rfl) (hk l D cI cZ b p e s m args below meth c H locs ls hC hH hS hL hlen)
theorem am_t_aload_n {i : Fin 4} {x : Nat} (hd : decode (am_c S) pc = .ok (.aload_n i, 1)) (hx : am_vs L i.val = some (.ref x)) (hk : am_T S r ab' (pc + 1) L (.ref x :: rest) ab k n) : am_T S r ab' pc L (rest) ab k n := by
  intro l D cI cZ b p e s m args below meth c H locs ls hC hH hS hL hlen
  exact lv_aload_n hC.1 hC.2.1 hd rfl (am_lget hL hx rfl) (hk l D cI cZ b p e s m args below meth c H locs ls hC hH hS hL hlen)
theorem am_t_aload_nN {i : Fin 4} (hd : decode (am_c S) pc = .ok (.aload_n i, 1)) (hx : am_vs L i.val = some .null) (hk : am_T S r ab' (pc + 1) L (.null :: rest) ab k n) : am_T S r ab' pc L (rest) ab k n := by
  intro l D cI cZ b p e s m args below meth c H locs ls hC hH hS hL hlen
  exact lv_aload_nN hC.1 hC.2.1 hd rfl (am_lget hL hx rfl) (hk l D cI cZ b p e s m args below meth c H locs ls hC hH hS hL hlen)
theorem am_t_istore_n {i : Fin 4} {x : Int32} {u : Value} (hd : decode (am_c S) pc = .ok (.istore_n i, 1)) (hu : am_vs L i.val = some u) (hk : am_T S r ab' (pc + 1) (am_vu L i.val (.int x)) rest ab k n) : am_T S r ab' pc L (.int x :: rest) ab k n := by
  intro l D cI cZ b p e s m args below meth c H locs ls hC hH hS hL hlen
  exact lv_istore_n hC.1 hC.2.1 hd rfl hL (by rw [← hlen]; rw [am_vs_eq] at hu; exact (List.getElem?_eq_some_iff.mp hu).1) rfl (fun ls' hl' => hk l D cI cZ b p e s m args below meth c H locs ls' hC hH hS (am_lput hu rfl hl') (am_vu_len hlen))
theorem am_t_istore {i : Nat} {x : Int32} {u : Value} (hd : decode (am_c S) pc = .ok (.istore i, 2)) (hu : am_vs L i = some u) (hk : am_T S r ab' (pc + 2) (am_vu L i (.int x)) rest ab k n) : am_T S r ab' pc L (.int x :: rest) ab k n := by
  intro l D cI cZ b p e s m args below meth c H locs ls hC hH hS hL hlen
  exact lv_istore hC.1 hC.2.1 hd hL (by rw [← hlen]; rw [am_vs_eq] at hu; exact (List.getElem?_eq_some_iff.mp hu).1) rfl (fun ls' hl' => hk l D cI cZ b p e s m args below meth c H locs ls' hC hH hS (am_lput hu rfl hl') (am_vu_len hlen))
theorem am_t_astore_n {i : Fin 4} {x : Nat} {u : Value} (hd : decode (am_c S) pc = .ok (.astore_n i, 1)) (hu : am_vs L i.val = some u) (hk : am_T S r ab' (pc + 1) (am_vu L i.val (.ref x)) rest ab k n) : am_T S r ab' pc L (.ref x :: rest) ab k n := by
  intro l D cI cZ b p e s m args below meth c H locs ls hC hH hS hL hlen
  exact lv_astore_n hC.1 hC.2.1 hd rfl hL (by rw [← hlen]; rw [am_vs_eq] at hu; exact (List.getElem?_eq_some_iff.mp hu).1) rfl (fun ls' hl' => hk l D cI cZ b p e s m args below meth c H locs ls' hC hH hS (am_lput hu rfl hl') (am_vu_len hlen))
theorem am_t_astore_nN {i : Fin 4} {u : Value} (hd : decode (am_c S) pc = .ok (.astore_n i, 1)) (hu : am_vs L i.val = some u) (hk : am_T S r ab' (pc + 1) (am_vu L i.val .null) rest ab k n) : am_T S r ab' pc L (.null :: rest) ab k n := by
  intro l D cI cZ b p e s m args below meth c H locs ls hC hH hS hL hlen
  exact lv_astore_nN hC.1 hC.2.1 hd rfl hL (by rw [← hlen]; rw [am_vs_eq] at hu; exact (List.getElem?_eq_some_iff.mp hu).1) rfl (fun ls' hl' => hk l D cI cZ b p e s m args below meth c H locs ls' hC hH hS (am_lput hu rfl hl') (am_vu_len hlen))
theorem am_t_iinc {i : Nat} {d : Int} {v x : Int32} (hd : decode (am_c S) pc = .ok (.iinc i d, 3)) (hv : Int32.ofInt d = v) (hu : am_vs L i = some (.int x)) (hk : am_T S r ab' (pc + 3) (am_vu L i (.int (x + v))) rest ab k n) : am_T S r ab' pc L (rest) ab k n := by
  intro l D cI cZ b p e s m args below meth c H locs ls hC hH hS hL hlen
  have hm : (i, Value.int x) ∈ am_lv b L := am_lv_mem (b := b) (by rw [← am_vs_eq]; exact hu) rfl
  obtain ⟨j, hj⟩ := List.getElem?_of_mem hm
  exact lv_iinc (v := x + v) hC.1 hC.2.1 hd hL hj (by rw [hv]) (by rw [← hlen]; rw [am_vs_eq] at hu; exact (List.getElem?_eq_some_iff.mp hu).1) rfl (fun ls' hl' => hk l D cI cZ b p e s m args below meth c H locs ls' hC hH hS (am_lput (v := .int (x + v)) hu rfl hl') (am_vu_len hlen))
theorem am_t_iadd {x y : Int32} (hd : decode (am_c S) pc = .ok (.iadd, 1)) (hk : am_T S r ab' (pc + 1) L (.int (x + y) :: rest) ab k n) : am_T S r ab' pc L (.int y :: .int x :: rest) ab k n := by
  intro l D cI cZ b p e s m args below meth c H locs ls hC hH hS hL hlen
  exact lv_iadd hC.1 hC.2.1 hd (hk l D cI cZ b p e s m args below meth c H locs ls hC hH hS hL hlen)
theorem am_t_isub {x y : Int32} (hd : decode (am_c S) pc = .ok (.isub, 1)) (hk : am_T S r ab' (pc + 1) L (.int (x - y) :: rest) ab k n) : am_T S r ab' pc L (.int y :: .int x :: rest) ab k n := by
  intro l D cI cZ b p e s m args below meth c H locs ls hC hH hS hL hlen
  exact lv_isub hC.1 hC.2.1 hd (hk l D cI cZ b p e s m args below meth c H locs ls hC hH hS hL hlen)
theorem am_t_imul {x y : Int32} (hd : decode (am_c S) pc = .ok (.imul, 1)) (hk : am_T S r ab' (pc + 1) L (.int (x * y) :: rest) ab k n) : am_T S r ab' pc L (.int y :: .int x :: rest) ab k n := by
  intro l D cI cZ b p e s m args below meth c H locs ls hC hH hS hL hlen
  exact lv_imul hC.1 hC.2.1 hd (hk l D cI cZ b p e s m args below meth c H locs ls hC hH hS hL hlen)
theorem am_t_iand {x y : Int32} (hd : decode (am_c S) pc = .ok (.iand, 1)) (hk : am_T S r ab' (pc + 1) L (.int (x &&& y) :: rest) ab k n) : am_T S r ab' pc L (.int y :: .int x :: rest) ab k n := by
  intro l D cI cZ b p e s m args below meth c H locs ls hC hH hS hL hlen
  exact lv_iand hC.1 hC.2.1 hd (hk l D cI cZ b p e s m args below meth c H locs ls hC hH hS hL hlen)
theorem am_t_ior {x y : Int32} (hd : decode (am_c S) pc = .ok (.ior, 1)) (hk : am_T S r ab' (pc + 1) L (.int (x ||| y) :: rest) ab k n) : am_T S r ab' pc L (.int y :: .int x :: rest) ab k n := by
  intro l D cI cZ b p e s m args below meth c H locs ls hC hH hS hL hlen
  exact lv_ior hC.1 hC.2.1 hd (hk l D cI cZ b p e s m args below meth c H locs ls hC hH hS hL hlen)
theorem am_t_ishl {x y : Int32} (hd : decode (am_c S) pc = .ok (.ishl, 1)) (hk : am_T S r ab' (pc + 1) L (.int (x <<< (y &&& 31)) :: rest) ab k n) : am_T S r ab' pc L (.int y :: .int x :: rest) ab k n := by
  intro l D cI cZ b p e s m args below meth c H locs ls hC hH hS hL hlen
  exact lv_ishl hC.1 hC.2.1 hd (hk l D cI cZ b p e s m args below meth c H locs ls hC hH hS hL hlen)
theorem am_t_ishr {x y : Int32} (hd : decode (am_c S) pc = .ok (.ishr, 1)) (hk : am_T S r ab' (pc + 1) L (.int (x >>> (y &&& 31)) :: rest) ab k n) : am_T S r ab' pc L (.int y :: .int x :: rest) ab k n := by
  intro l D cI cZ b p e s m args below meth c H locs ls hC hH hS hL hlen
  exact lv_ishr hC.1 hC.2.1 hd (hk l D cI cZ b p e s m args below meth c H locs ls hC hH hS hL hlen)
theorem am_t_iushr {x y : Int32} (hd : decode (am_c S) pc = .ok (.iushr, 1)) (hk : am_T S r ab' (pc + 1) L (.int (x.toUInt32 >>> (y.toUInt32 &&& Int32.toUInt32 31)).toInt32 :: rest) ab k n) : am_T S r ab' pc L (.int y :: .int x :: rest) ab k n := by
  intro l D cI cZ b p e s m args below meth c H locs ls hC hH hS hL hlen
  exact lv_iushr hC.1 hC.2.1 hd rfl (hk l D cI cZ b p e s m args below meth c H locs ls hC hH hS hL hlen)
theorem am_t_idiv {x y : Int32} (hd : decode (am_c S) pc = .ok (.idiv, 1)) (hy : ¬ y = 0) (hk : am_T S r ab' (pc + 1) L (.int (x / y) :: rest) ab k n) : am_T S r ab' pc L (.int y :: .int x :: rest) ab k n := by
  intro l D cI cZ b p e s m args below meth c H locs ls hC hH hS hL hlen
  exact lv_idiv hC.1 hC.2.1 hd hy (hk l D cI cZ b p e s m args below meth c H locs ls hC hH hS hL hlen)
theorem am_t_irem {x y : Int32} (hd : decode (am_c S) pc = .ok (.irem, 1)) (hy : ¬ y = 0) (hk : am_T S r ab' (pc + 1) L (.int (x - x / y * y) :: rest) ab k n) : am_T S r ab' pc L (.int y :: .int x :: rest) ab k n := by
  intro l D cI cZ b p e s m args below meth c H locs ls hC hH hS hL hlen
  exact lv_irem hC.1 hC.2.1 hd hy (hk l D cI cZ b p e s m args below meth c H locs ls hC hH hS hL hlen)
theorem am_t_dup {v : Value} (hd : decode (am_c S) pc = .ok (.dup, 1)) (hv : am_ok v = true) (hk : am_T S r ab' (pc + 1) L (v :: v :: rest) ab k n) : am_T S r ab' pc L (v :: rest) ab k n := by
  intro l D cI cZ b p e s m args below meth c H locs ls hC hH hS hL hlen
  exact lv_dup hC.1 hC.2.1 hd (by rw [am_v_cat]; exact am_ok_cat hv) (hk l D cI cZ b p e s m args below meth c H locs ls hC hH hS hL hlen)
theorem am_t_dup2 {u v : Value} (hd : decode (am_c S) pc = .ok (.dup2, 1)) (hu : am_ok u = true) (hv : am_ok v = true) (hk : am_T S r ab' (pc + 1) L (u :: v :: u :: v :: rest) ab k n) : am_T S r ab' pc L (u :: v :: rest) ab k n := by
  intro l D cI cZ b p e s m args below meth c H locs ls hC hH hS hL hlen
  exact lv_dup2_11 hC.1 hC.2.1 hd (by rw [am_v_cat]; exact am_ok_cat hu) (by rw [am_v_cat]; exact am_ok_cat hv) (hk l D cI cZ b p e s m args below meth c H locs ls hC hH hS hL hlen)
theorem am_t_pop {v : Value} (hd : decode (am_c S) pc = .ok (.pop, 1)) (hv : am_ok v = true) (hk : am_T S r ab' (pc + 1) L rest ab k n) : am_T S r ab' pc L (v :: rest) ab k n := by
  intro l D cI cZ b p e s m args below meth c H locs ls hC hH hS hL hlen
  exact lv_pop hC.1 hC.2.1 hd (by rw [am_v_cat]; exact am_ok_cat hv) (hk l D cI cZ b p e s m args below meth c H locs ls hC hH hS hL hlen)
theorem am_t_null (hd : decode (am_c S) pc = .ok (.aconst_null, 1)) (hk : am_T S r ab' (pc + 1) L (.null :: rest) ab k n) : am_T S r ab' pc L (rest) ab k n := by
  intro l D cI cZ b p e s m args below meth c H locs ls hC hH hS hL hlen
  exact lv_null hC.1 hC.2.1 hd (hk l D cI cZ b p e s m args below meth c H locs ls hC hH hS hL hlen)
theorem am_t_goto {o : Int} {t : Nat} (hd : decode (am_c S) pc = .ok (.goto o, 3)) (ht : (pc : Int) + o = (t : Int)) (hk : am_T S r ab' t L rest ab k n) : am_T S r ab' pc L (rest) ab k n := by
  intro l D cI cZ b p e s m args below meth c H locs ls hC hH hS hL hlen
  exact lv_goto hC.1 hC.2.1 hd ht (hk l D cI cZ b p e s m args below meth c H locs ls hC hH hS hL hlen)
theorem am_t_ifnonnull {o : Int} {t x : Nat} (hd : decode (am_c S) pc = .ok (.ifnonnull o, 3)) (ht : (pc : Int) + o = (t : Int)) (hk : am_T S r ab' t L rest ab k n) : am_T S r ab' pc L (.ref x :: rest) ab k n := by
  intro l D cI cZ b p e s m args below meth c H locs ls hC hH hS hL hlen
  exact lv_ifnonnull hC.1 hC.2.1 hd ht (hk l D cI cZ b p e s m args below meth c H locs ls hC hH hS hL hlen)
theorem am_t_ifnonnullN {o : Int} (hd : decode (am_c S) pc = .ok (.ifnonnull o, 3)) (hk : am_T S r ab' (pc + 3) L rest ab k n) : am_T S r ab' pc L (.null :: rest) ab k n := by
  intro l D cI cZ b p e s m args below meth c H locs ls hC hH hS hL hlen
  exact lv_ifnonnullN hC.1 hC.2.1 hd (hk l D cI cZ b p e s m args below meth c H locs ls hC hH hS hL hlen)
theorem am_t_icmp {x y : Int32} {cc : ClassFile.Cond} {o : Int} {t : Nat} (hd : decode (am_c S) pc = .ok (.if_icmp cc o, 3)) (ht : (pc : Int) + o = (t : Int)) (hk : am_ic cc x y (am_T S r ab' t L rest ab k n) (am_T S r ab' (pc + 3) L rest ab k n)) : am_T S r ab' pc L (.int y :: .int x :: rest) ab k n := by
  intro l D cI cZ b p e s m args below meth c H locs ls hC hH hS hL hlen
  cases cc with
  | eq => exact lv_icmp_eq hC.1 hC.2.1 hd ht (fun h => hk.1 h l D cI cZ b p e s m args below meth c H locs ls hC hH hS hL hlen) (fun h => hk.2 h l D cI cZ b p e s m args below meth c H locs ls hC hH hS hL hlen)
  | ne => exact lv_icmp_ne hC.1 hC.2.1 hd ht (fun h => hk.2 h l D cI cZ b p e s m args below meth c H locs ls hC hH hS hL hlen) (fun h => hk.1 h l D cI cZ b p e s m args below meth c H locs ls hC hH hS hL hlen)
  | lt => exact lv_icmp_lt hC.1 hC.2.1 hd ht (fun h => hk.1 h l D cI cZ b p e s m args below meth c H locs ls hC hH hS hL hlen) (fun h => hk.2 h l D cI cZ b p e s m args below meth c H locs ls hC hH hS hL hlen)
  | ge => exact lv_icmp_ge hC.1 hC.2.1 hd ht (fun h => hk.1 h l D cI cZ b p e s m args below meth c H locs ls hC hH hS hL hlen) (fun h => hk.2 h l D cI cZ b p e s m args below meth c H locs ls hC hH hS hL hlen)
  | gt => exact lv_icmp_gt hC.1 hC.2.1 hd ht (fun h => hk.1 h l D cI cZ b p e s m args below meth c H locs ls hC hH hS hL hlen) (fun h => hk.2 h l D cI cZ b p e s m args below meth c H locs ls hC hH hS hL hlen)
  | le => exact lv_icmp_le hC.1 hC.2.1 hd ht (fun h => hk.1 h l D cI cZ b p e s m args below meth c H locs ls hC hH hS hL hlen) (fun h => hk.2 h l D cI cZ b p e s m args below meth c H locs ls hC hH hS hL hlen)
theorem am_t_if {x : Int32} {cc : ClassFile.Cond} {o : Int} {t : Nat} (hd : decode (am_c S) pc = .ok (.ifCond cc o, 3)) (ht : (pc : Int) + o = (t : Int)) (hk : am_ic cc x (0 : Int32) (am_T S r ab' t L rest ab k n) (am_T S r ab' (pc + 3) L rest ab k n)) : am_T S r ab' pc L (.int x :: rest) ab k n := by
  intro l D cI cZ b p e s m args below meth c H locs ls hC hH hS hL hlen
  cases cc with
  | eq => exact lv_if_eq hC.1 hC.2.1 hd ht (fun h => hk.1 h l D cI cZ b p e s m args below meth c H locs ls hC hH hS hL hlen) (fun h => hk.2 h l D cI cZ b p e s m args below meth c H locs ls hC hH hS hL hlen)
  | ne => exact lv_if_ne hC.1 hC.2.1 hd ht (fun h => hk.2 h l D cI cZ b p e s m args below meth c H locs ls hC hH hS hL hlen) (fun h => hk.1 h l D cI cZ b p e s m args below meth c H locs ls hC hH hS hL hlen)
  | lt => exact lv_if_lt hC.1 hC.2.1 hd ht (fun h => hk.1 h l D cI cZ b p e s m args below meth c H locs ls hC hH hS hL hlen) (fun h => hk.2 h l D cI cZ b p e s m args below meth c H locs ls hC hH hS hL hlen)
  | ge => exact lv_if_ge hC.1 hC.2.1 hd ht (fun h => hk.1 h l D cI cZ b p e s m args below meth c H locs ls hC hH hS hL hlen) (fun h => hk.2 h l D cI cZ b p e s m args below meth c H locs ls hC hH hS hL hlen)
  | gt => exact lv_if_gt hC.1 hC.2.1 hd ht (fun h => hk.1 h l D cI cZ b p e s m args below meth c H locs ls hC hH hS hL hlen) (fun h => hk.2 h l D cI cZ b p e s m args below meth c H locs ls hC hH hS hL hlen)
  | le => exact lv_if_le hC.1 hC.2.1 hd ht (fun h => hk.1 h l D cI cZ b p e s m args below meth c H locs ls hC hH hS hL hlen) (fun h => hk.2 h l D cI cZ b p e s m args below meth c H locs ls hC hH hS hL hlen)
theorem am_t_iaload {j : Int32} {i N : Nat} {f : Nat → Int32} (hd : decode (am_c S) pc = .ok (.iaload, 1)) (hc : am_ls ab i = some (.inl (false, N, f))) (hj : vp_in j N) (hk : am_T S r ab' (pc + 1) L (.int (f j.toNatClampNeg) :: rest) ab k n) : am_T S r ab' pc L (.int j :: .ref i :: rest) ab k n := by
  intro l D cI cZ b p e s m args below meth c H locs ls hC hH hS hL hlen
  exact va_iald hC.1 hC.2.1 hC.2.2.2.2.2.2.2.2.1.1 (am_P hH) i 0 (am_ws_at (by rw [← am_ls_eq]; exact hc)) rfl hj hd (hk l D cI cZ b p e s m args below meth c H locs ls hC hH hS hL hlen)
theorem am_t_baload {j : Int32} {i N : Nat} {f : Nat → Int32} (hd : decode (am_c S) pc = .ok (.baload, 1)) (hc : am_ls ab i = some (.inl (true, N, f))) (hj : vp_in j N) (hk : am_T S r ab' (pc + 1) L (.int (f j.toNatClampNeg) :: rest) ab k n) : am_T S r ab' pc L (.int j :: .ref i :: rest) ab k n := by
  intro l D cI cZ b p e s m args below meth c H locs ls hC hH hS hL hlen
  exact va_zald hC.1 hC.2.1 hC.2.2.2.2.2.2.2.2.1.1 (am_P hH) i 1 (am_ws_at (by rw [← am_ls_eq]; exact hc)) rfl hj hd (hk l D cI cZ b p e s m args below meth c H locs ls hC hH hS hL hlen)
theorem am_t_iastore {j x : Int32} {i N : Nat} {f : Nat → Int32} (hd : decode (am_c S) pc = .ok (.iastore, 1)) (hc : am_ls ab i = some (.inl (false, N, f))) (hj : vp_in j N) (hk : am_T S r ab' (pc + 1) L rest (am_up ab i (.inl (false, N, upd f j.toNatClampNeg x))) k n) : am_T S r ab' pc L (.int x :: .int j :: .ref i :: rest) ab k n := by
  intro l D cI cZ b p e s m args below meth c H locs ls hC hH hS hL hlen
  have ha := am_P hH i _ (am_ws_at (by rw [← am_ls_eq]; exact hc))
  refine W.iast hC.1 hC.2.1 ha ((hC.2.2.2.2.2.2.2.2.1.1.2 0 _ rfl).1 N (fun q => .int (f q))) (fun q => by cases q) (by show ¬ (j < 0 ∨ (arrV _ _ _).slots.size ≤ _); rw [arrV_size]; exact hj) rfl rfl hd fun H1 e1 z1 oq => ?_
  refine hk l D cI cZ b p e s m args below meth c H1 _ ls hC (am_H_set hH hc z1 ?_ oq) (am_S_put hS z1 oq) hL hlen
  show H1[b + i]? = some (vp_cell _ _)
  rw [e1]
  show some ((vp_cell _ _).setSlot _ _) = _
  rw [vp_cell_i, vp_cell_i, arrV_store]
  congr 2
  funext q
  by_cases hq : q = j.toNatClampNeg
  · subst hq
    simp [updV, upd]
    try rfl
  · simp [updV, upd, hq]
theorem am_t_bastore {j x : Int32} {i N : Nat} {f : Nat → Int32} (hd : decode (am_c S) pc = .ok (.bastore, 1)) (hc : am_ls ab i = some (.inl (true, N, f))) (hj : vp_in j N) (hk : am_T S r ab' (pc + 1) L rest (am_up ab i (.inl (true, N, upd f j.toNatClampNeg (vp_nar .boolean x)))) k n) : am_T S r ab' pc L (.int x :: .int j :: .ref i :: rest) ab k n := by
  intro l D cI cZ b p e s m args below meth c H locs ls hC hH hS hL hlen
  have ha := am_P hH i _ (am_ws_at (by rw [← am_ls_eq]; exact hc))
  refine W.zast hC.1 hC.2.1 ha ((hC.2.2.2.2.2.2.2.2.1.1.2 1 _ rfl).1 N (fun q => .int (f q))) (fun q => by cases q) (by show ¬ (j < 0 ∨ (arrV _ _ _).slots.size ≤ _); rw [arrV_size]; exact hj) rfl rfl hd fun H1 e1 z1 oq => ?_
  refine hk l D cI cZ b p e s m args below meth c H1 _ ls hC (am_H_set hH hc z1 ?_ oq) (am_S_put hS z1 oq) hL hlen
  show H1[b + i]? = some (vp_cell _ _)
  rw [e1]
  show some ((vp_cell _ _).setSlot _ _) = _
  rw [vp_cell_i, vp_cell_i, arrV_store]
  congr 2
  funext q
  by_cases hq : q = j.toNatClampNeg
  · subst hq
    simp [updV, upd, vp_nar]
    try rfl
  · simp [updV, upd, hq]
end AMI
end
section
/-! soundness of the small machine: fields, new cells, calls, returns, switches -/
theorem am_in0 : ∀ w ∈ u_ws RX0 TX0 4, w ∈ lw_tbl ∧ goodWord w = true := by decide +kernel
theorem am_in1 : ∀ w ∈ u_ws RX1 TX1 2, w ∈ lw_tbl ∧ goodWord w = true := by decide +kernel
theorem am_in3 : ∀ w ∈ u_ws RX3 TX3 2, w ∈ lw_tbl ∧ goodWord w = true := by decide +kernel
theorem am_in5 : ∀ w ∈ u_ws RX5 TX5 9, w ∈ lw_tbl ∧ goodWord w = true := by decide +kernel
theorem am_in6 : ∀ w ∈ u_ws RX6 TX6 8, w ∈ lw_tbl ∧ goodWord w = true := by decide +kernel
theorem am_in7 : ∀ w ∈ u_ws RX7 TX7 3, w ∈ lw_tbl ∧ goodWord w = true := by decide +kernel
theorem am_in9 : ∀ w ∈ u_ws RX9 TX9 9, w ∈ lw_tbl ∧ goodWord w = true := by decide +kernel
theorem am_in10 : ∀ w ∈ u_ws RX10 TX10 9, w ∈ lw_tbl ∧ goodWord w = true := by decide +kernel
theorem am_in11 : ∀ w ∈ u_ws RX11 TX11 28, w ∈ lw_tbl ∧ goodWord w = true := by decide +kernel
theorem am_inOf {l : List Cond} (h : ∀ w ∈ l, w ∈ lw_tbl ∧ goodWord w = true) : ∀ w ∈ l, w ∈ am_gw := fun w hw => List.mem_filter.mpr ⟨List.mem_append_left _ (h w hw).1, (h w hw).2⟩
def am_Cls (ci : Nat) (C : String) (T : u_T) (N : Nat) (ty : Nat → FieldType) : Prop := (∀ w ∈ u_ws C T N, w ∈ am_gw) ∧ (∀ k, k < N → parseFieldDescriptor (T k).2.2.1 = some (ty k)) ∧ (∀ a, a < N → ∀ b, b < N → a ≠ b → (T a).2.1 ≠ (T b).2.1) ∧ (∀ j, j < N → defaultValue (ty j) = vp_V (am_df ci) j) ∧ (∀ b, (am_df ci).map (am_v b) = am_df ci)
theorem am_cls {ci : Nat} {C : String} {T : u_T} {N : Nat} (h : vwCl[ci]? = some (C, T, N)) : ∃ ty, am_Cls ci C T N ty := by
  match ci, h with
  | 0, h => cases h; exact ⟨tyX0, am_inOf am_in0, tyX0_ok, nmX0, by decide +kernel, fun _ => rfl⟩
  | 1, h => cases h; exact ⟨tyX1, am_inOf am_in1, tyX1_ok, nmX1, by decide +kernel, fun _ => rfl⟩
  | 2, h => cases h; exact ⟨tyX3, am_inOf am_in3, tyX3_ok, nmX3, by decide +kernel, fun _ => rfl⟩
  | 3, h => cases h; exact ⟨tyX5, am_inOf am_in5, tyX5_ok, nmX5, by decide +kernel, fun _ => rfl⟩
  | 4, h => cases h; exact ⟨tyX6, am_inOf am_in6, tyX6_ok, nmX6, by decide +kernel, fun _ => rfl⟩
  | 5, h => cases h; exact ⟨tyX7, am_inOf am_in7, tyX7_ok, nmX7, by decide +kernel, fun _ => rfl⟩
  | 6, h => cases h; exact ⟨tyX9, am_inOf am_in9, tyX9_ok, nmX9, by decide +kernel, fun _ => rfl⟩
  | 7, h => cases h; exact ⟨tyX10, am_inOf am_in10, tyX10_ok, nmX10, by decide +kernel, fun _ => rfl⟩
  | 8, h => cases h; exact ⟨tyX11, am_inOf am_in11, tyX11_ok, nmX11, by decide +kernel, fun _ => rfl⟩
  | k + 9, h => simp [vwCl] at h
/-- a field, as an instruction names it -/
def am_fk (own : String) (idx k : Nat) (ref : String) (ci : Nat) : Prop := ∃ (C : String) (T : u_T) (N : Nat), vwCl[ci]? = some (C, T, N) ∧ k < N ∧ Cond.fieldLink own idx ref (T k).2.1 (T k).2.2.1 ∈ am_gw ∧ ((T k).1 = ref ∨ Cond.sameField ref (T k).1 (T k).2.1 (T k).2.2.1 ∈ am_gw)
def am_pk (own nm : String) (idx k : Nat) (ref : String) (ci : Nat) (sort : Int32) : Prop := ∃ (C : String) (T : u_T) (N : Nat) (ty : FieldType), vwCl[ci]? = some (C, T, N) ∧ k < N ∧ Cond.fieldLink own idx ref (T k).2.1 (T k).2.2.1 ∈ am_gw ∧ ((T k).1 = ref ∨ Cond.sameField ref (T k).1 (T k).2.1 (T k).2.2.1 ∈ am_gw) ∧
  ((T k).2.2.2 = false ∨ ((T k).2.2.2 = true ∧ nm = "<init>" ∧ (T k).1 = own)) ∧ parseFieldDescriptor (T k).2.2.1 = some ty ∧ ((sort = 0 ∧ ty = .int) ∨ (sort = 1 ∧ ty = .boolean) ∨ (sort = 2 ∧ ((∃ c, ty = .object c) ∨ ∃ t, ty = .array t)))
theorem am_fv_ok {sort : Int32} {v : Value} {ty : FieldType} (b : Nat) (h : am_fv sort v = true) (ht : (sort = 0 ∧ ty = .int) ∨ (sort = 1 ∧ ty = .boolean) ∨ (sort = 2 ∧ ((∃ c, ty = .object c) ∨ ∃ t, ty = .array t))) : narrow ty (am_v b v) = am_v b v ∧ fits ty (am_v b v) = true := by
  rcases ht with ⟨rfl, rfl⟩ | ⟨rfl, rfl⟩ | ⟨rfl, ⟨c, rfl⟩ | ⟨t, rfl⟩⟩
  · cases v with
    | int x => exact ⟨rfl, rfl⟩
    | _ => simp [am_fv] at h
  · cases v with
    | int x =>
      simp [am_fv] at h
      rcases h with rfl | rfl <;> exact ⟨rfl, rfl⟩
    | _ => simp [am_fv] at h
  · cases v with
    | ref x => exact ⟨rfl, rfl⟩
    | null => exact ⟨rfl, rfl⟩
    | _ => simp [am_fv] at h
  · cases v with
    | ref x => exact ⟨rfl, rfl⟩
    | null => exact ⟨rfl, rfl⟩
    | _ => simp [am_fv] at h
section AMO
variable {S : am_Sg} {r : Option Value} {ab' : List am_Cl} {pc : Nat} {L rest : List Value} {ab : List am_Cl} {k n : Nat}
theorem am_t_getfield {idx j i ci : Nat} {ref : String} {fs : List Value} {v : Value} (hd : decode (am_c S) pc = .ok (.getfield idx, 3)) (hF : am_fk (am_y S).cls idx j ref ci) (hc : am_ls ab i = some (.inr (ci, fs))) (hv : am_vs fs j = some v) (hk : am_T S r ab' (pc + 3) L (v :: rest) ab k n) : am_T S r ab' pc L (.ref i :: rest) ab k n := by
  intro l D cI cZ b p e s m args below meth c H locs ls hC hH hS hL hlen
  obtain ⟨C, T, N, hc0, hjN, hlink, hsm⟩ := hF
  obtain ⟨ty, hin, -⟩ := am_cls hc0
  have hts := hC.2.2.2.2.2.2.2.1
  refine va_get (v := am_v b v) (ref := ref) hC.1 hC.2.1 hts hin hC.2.2.2.2.2.1 hC.2.2.2.2.2.2.2.2.1.1 (am_P hH) i (am_ws_at (by rw [← am_ls_eq]; exact hc)) hc0 j hjN (hts _ hlink) ?_ ?_ hd (hk l D cI cZ b p e s m args below meth c H locs ls hC hH hS hL hlen)
  · rcases hsm with h | h
    · intro x hx; rw [← h]; exact hx
    · intro x hx; exact u_same (hts _ h) x hx
  · rw [List.getElem?_map, ← am_vs_eq, hv]; rfl
theorem am_t_putfield {idx j i ci : Nat} {ref : String} {sort : Int32} {fs : List Value} {v u : Value} (hd : decode (am_c S) pc = .ok (.putfield idx, 3)) (hF : am_pk (am_y S).cls (am_y S).name idx j ref ci sort) (hc : am_ls ab i = some (.inr (ci, fs))) (hu : am_vs fs j = some u) (hv : am_fv sort v = true) (hk : am_T S r ab' (pc + 3) L rest (am_up ab i (.inr (ci, am_vu fs j v))) k n) : am_T S r ab' pc L (v :: .ref i :: rest) ab k n := by
  intro l D cI cZ b p e s m args below meth c H locs ls hC hH hS hL hlen
  obtain ⟨C, T, N, ty, hc0, hjN, hlink, hsm, hfin, hdesc, hsort⟩ := hF
  obtain ⟨ty0, hin, hty0, hnm0, -⟩ := am_cls hc0
  obtain ⟨hn, hfit⟩ := am_fv_ok b hv hsort
  have hts := hC.2.2.2.2.2.2.2.1
  have hKv := hC.2.2.2.2.2.2.2.2.1.1
  have hown := hC.2.2.2.2.2.1
  have hap := va_apart (own := (am_y S).cls) hts hin ty0 hty0 hnm0 hKv hc0
  obtain ⟨r0, h1, cell, q1, q2, q3, q4⟩ := am_P hH i _ (am_ws_at (by rw [← am_ls_eq]; exact hc))
  have hr0 : r0 = (C, T, N) := Option.some.inj (h1.symm.trans hc0)
  subst hr0
  obtain ⟨hSl, hfc, kC, hkC, hkind⟩ := hKv.1 ci _ hc0
  obtain ⟨cf, kf, fi, f, hi, hsl⟩ := hSl j hjN
  have hst := (u_facts hfc hkC (u_lays hts hin hjN) hi).1
  have hsame : s.fieldFound? ref (T j).2.1 (T j).2.2.1 = some (cf, kf, fi, f) := by
    rcases hsm with h | h
    · rw [← h]; exact hi
    · exact u_same (hts _ h) _ hi
  have hlen2 : j < (fs.map (am_v b)).length := by
    rw [am_vs_eq] at hu
    simpa using (List.getElem?_eq_some_iff.mp hu).1
  have fin : ∀ H' : Heap, H'[b + i]? = some (cell.setSlot f.slot (am_v b v)) → H'.size = H.size → (∀ q, q ≠ b + i → H'[q]? = H[q]?) → W p l e (am_rm S) s m args below meth c H' (locs ++ [⟨b + i, f.slot⟩]) k n (MQ below (am_Q D cI cZ b r ab') args s (am_rm S).cells (am_rm S).slots (fun q => b ≤ q)) (F0 m (pc + 3) ls (rest.map (am_v b))) := by
    intro H' e1 e2 e3
    refine hk l D cI cZ b p e s m args below meth c H' _ ls hC (am_H_set hH hc e2 ?_ e3) (am_S_put hS e2 e3) hL hlen
    rw [hsl] at e1
    refine ⟨_, hc0, ?_⟩
    have e4 : (am_vu fs j v).map (am_v b) = (fs.map (am_v b)).set j (am_v b v) := by rw [am_vu_eq, List.map_set]
    show t_OB (b + i) _ _ _ H' (vp_V ((am_vu fs j v).map (am_v b)))
    rw [e4]
    exact t_OB.to (V := updV (vp_V (fs.map (am_v b))) j (am_v b v)) ⟨_, e1, q2, q3, t_set q4 hap hjN (am_v b v)⟩ (fun x _ => vp_updV_set hlen2 (am_v b v) x)
  have hlay := hts _ (hin _ (u_in_lay hjN))
  unfold u_lay at hlay
  rcases hfin with hf | ⟨hf, hini, hdecl⟩
  · rw [if_neg (by rw [hf]; decide)] at hlay
    have h6 := u_store hfc hkC hkind hlay hi hdesc hn hfit
    exact W.putK hC.1 hC.2.1 (f := f) ⟨hown, hts _ hlink, ⟨_, _, _, hsame⟩, hst⟩ (by rw [q2]; exact h6) q1 q3 (by rw [hsl]; exact k2_hasslot (q4 j hjN)) rfl rfl hd fin
  · rw [if_pos hf] at hlay
    have hcf : m.cls = cf := by
      obtain ⟨_, _, c', _, _, _, -, -, hf', -, -, -, hown2, -⟩ := Cond.laysFinal_spec hlay
      have e1 : c' = cf := by have := hi.symm.trans hf'; simp at this; exact this.1.symm
      rw [hdecl] at hown2
      rw [← e1]; exact Option.some.inj (hown.symm.trans hown2)
    have h6 := u_fits hfc hkC hkind (Or.inr hlay) hi hdesc hn hfit
    exact W.putFinK hC.1 hC.2.1 hown (hts _ hlink) hsame hst hcf (by rw [hC.2.2.2.2.2.2.1]; exact hini) (by rw [q2]; exact h6) q1 q3 (by rw [hsl]; exact k2_hasslot (q4 j hjN)) rfl rfl hd fin
theorem am_t_new {idx ci : Nat} {C : String} {T : u_T} (hd : decode (am_c S) pc = .ok (.new idx, 3)) (hc0 : vwCl[ci]? = some (C, T, (am_df ci).length)) (hcl : Cond.classLink (am_y S).cls idx C ∈ am_gw) (hins : Cond.instantiable C (am_df ci).length ∈ am_gw) (hini : Cond.initialized C ∈ am_gw) (h1 : k + 1 ≤ (am_rm S).cells) (h2 : n + (am_df ci).length ≤ (am_rm S).slots) (hk : am_T S r ab' (pc + 3) L (.ref ab.length :: rest) (ab ++ [.inr (ci, am_df ci)]) (k + 1) (n + (am_df ci).length)) : am_T S r ab' pc L rest ab k n := by
  intro l D cI cZ b p e s m args below meth c H locs ls hC hH hS hL hlen
  obtain ⟨ty0, hin, hty0, hnm0, hdf, hmap⟩ := am_cls hc0
  have hts := hC.2.2.2.2.2.2.2.1
  have hKn := hC.2.2.2.2.2.2.2.2.1.1.1 ci _ hc0
  refine W.newcK hC.1 hC.2.1 hC.2.2.2.2.2.1 (hts _ hcl) (hts _ hins) (hts _ hini) rfl hd h1 h2 hKn.2.1 hH.1 fun H1 kC hkC e1 z1 o1 => ?_
  refine hk l D cI cZ b p e s m args below meth c H1 locs ls hC (am_H_new hH (by rw [z1, hH.1]) ?_ (by rw [hH.1]; exact o1)) (am_S_new hS (by rw [z1, hH.1]) (by rw [hH.1]; exact o1)) hL hlen
  refine ⟨_, hc0, ?_⟩
  show t_OB _ _ _ _ _ (vp_V ((am_df ci).map (am_v b)))
  rw [hmap]
  exact (u_born ty0 hts hin hKn hkC e1 hty0).to hdf
theorem am_t_newarray {t : ArrayType} {cn : Int32} {N : Nat} (hd : decode (am_c S) pc = .ok (.newarray t, 2)) (hw : Cond.arrayClass (newarray.typeOf t) ∈ am_gw) (ht : t = .int ∨ t = .boolean) (hn : ¬ cn < 0) (hN : cn.toNatClampNeg = N) (hb8 : N * 8 ≤ 536870912) (h1 : k + 1 ≤ (am_rm S).cells) (h2 : n + N ≤ (am_rm S).slots) (hk : am_T S r ab' (pc + 2) L (.ref ab.length :: rest) (ab ++ [.inl (decide (t = .boolean), N, fun _ => 0)]) (k + 1) (n + N)) : am_T S r ab' pc L (.int cn :: rest) ab k n := by
  intro l D cI cZ b p e s m args below meth c H locs ls hC hH hS hL hlen
  have hts := hC.2.2.2.2.2.2.2.1
  have hKv := hC.2.2.2.2.2.2.2.2.1.1
  refine va_newaK hC.1 hC.2.1 (hts _ hw) rfl hd rfl hn hN ?_ h1 h2 hH.1 fun H1 cA e1 z1 o1 hAr hNm => ?_
  · rcases ht with rfl | rfl <;> (simp [newarray.typeOf, componentBytes]; omega)
  · refine hk l D cI cZ b p e s m args below meth c H1 locs ls hC (am_H_new hH (by rw [z1, hH.1]) ?_ (by rw [hH.1]; exact o1)) (am_S_new hS (by rw [z1, hH.1]) (by rw [hH.1]; exact o1)) hL hlen
    rcases ht with rfl | rfl
    · have e2 : s.vm.findClass ("[" ++ (FieldType.int).toString) = some cI := (hKv.2 0 _ rfl).2
      have e3 : cA = cI := Option.some.inj (hNm.symm.trans e2)
      subst e3
      exact e1
    · have e2 : s.vm.findClass ("[" ++ (FieldType.boolean).toString) = some cZ := (hKv.2 1 _ rfl).2
      have e3 : cA = cZ := Option.some.inj (hNm.symm.trans e2)
      subst e3
      exact e1
theorem am_t_objInit {idx i : Nat} (hd : decode (am_c S) pc = .ok (.invokespecial idx, 3)) (hl : Cond.methodLink (am_y S).cls idx Lib.objectInit ∈ am_gw) (hi : Cond.instanceMethod Lib.objectInit ∈ am_gw) (hc : Cond.code Lib.objectInit ⟨#[0xb1]⟩ 1 none ∈ am_gw) (hf : 1 ≤ (am_rm S).frames) (ho : 20 ≤ (am_rm S).locals) (h8 : am_ct rest ≤ 8) (hk : am_T S r ab' (pc + 3) L rest ab k n) : am_T S r ab' pc L (.ref i :: rest) ab k n := by
  intro l D cI cZ b p e s m args below meth c H locs ls hC hH hS hL hlen
  have hts := hC.2.2.2.2.2.2.2.1
  refine W.objInit hC.1 hC.2.1 hC.2.2.2.2.2.1 (hts _ hl) (hts _ hi) (hts _ hc) rfl (by rw [hC.2.2.2.2.1]; exact hL.1) rfl hd hf ?_ (hk l D cI cZ b p e s m args below meth c H locs ls hC hH hS hL hlen)
  have := am_ct_eq b rest
  show 2 * 0 + _ + 12 ≤ _
  rw [this]
  omega
theorem am_t_min {idx : Nat} {x y : Int32} (hd : decode (am_c S) pc = .ok (.invokestatic idx, 3)) (hl : Cond.methodLink (am_y S).cls idx Lib.Math.min.name ∈ am_gw) (hst : Cond.static Lib.Math.min.name ∈ am_gw) (hin : Cond.initialized "java/lang/Math" ∈ am_gw) (hc : Cond.code Lib.Math.min.name Lib.Math.min.code 2 (some .int) ∈ am_gw) (hf : 1 ≤ (am_rm S).frames) (ho : 21 ≤ (am_rm S).locals) (h8 : am_ct rest ≤ 8) (h1 : k ≤ (am_rm S).cells) (h2 : n ≤ (am_rm S).slots) (hk : am_T S r ab' (pc + 3) L (.int (if y < x then y else x) :: rest) ab k n) : am_T S r ab' pc L (.int y :: .int x :: rest) ab k n := by
  intro l D cI cZ b p e s m args below meth c H locs ls hC hH hS hL hlen
  have hts := hC.2.2.2.2.2.2.2.1
  refine va_mmin hC.1 hC.2.1 (by rw [hC.2.2.2.2.1]; exact hL.1.symm) hC.2.2.2.2.2.1 (hts _ hl) (hts _ hst) (hts _ hin) (hts _ hc) hf ?_ h1 h2 hd (hk l D cI cZ b p e s m args below meth c H locs ls hC hH hS hL hlen)
  have := am_ct_eq b rest
  rw [this]
  omega
theorem am_t_ireturn {x : Int32} {ty : FieldType} (hd : decode (am_c S) pc = .ok (.ireturn, 1)) (hr : am_r S = some ty) (hn : narrow ty (.int x) = .int x) (h1 : k ≤ (am_rm S).cells) (h2 : n ≤ (am_rm S).slots) : am_T S (some (.int x)) ab pc L [.int x] ab k n := by
  intro l D cI cZ b p e s m args below meth c H locs ls hC hH hS hL hlen
  refine W.widen h1 h2 ?_
  exact W.zret hC.1 hC.2.1 (by rw [hC.2.2.1, hr]) hn (fun t ht hW => ⟨rfl, by rw [ht]; exact hH, hS.F ht⟩) hS.2.2 hd hC.2.2.2.1
theorem am_t_return (hd : decode (am_c S) pc = .ok (.return_, 1)) (hr : am_r S = none) (h1 : k ≤ (am_rm S).cells) (h2 : n ≤ (am_rm S).slots) : am_T S none ab pc L [] ab k n := by
  intro l D cI cZ b p e s m args below meth c H locs ls hC hH hS hL hlen
  refine W.widen h1 h2 ?_
  exact W.vret hC.1 hC.2.1 (by rw [hC.2.2.1, hr]) (fun t ht hW => ⟨rfl, by rw [ht]; exact hH, hS.F ht⟩) hS.2.2 hd hC.2.2.2.1
theorem am_t_areturn {v : Value} {nm : String} (hd : decode (am_c S) pc = .ok (.areturn, 1)) (hr : am_r S = some (.object nm)) (hv : am_fv 2 v = true) (h1 : k ≤ (am_rm S).cells) (h2 : n ≤ (am_rm S).slots) : am_T S (some v) ab pc L [v] ab k n := by
  intro l D cI cZ b p e s m args below meth c H locs ls hC hH hS hL hlen
  refine W.widen h1 h2 ?_
  refine W.aret (v := am_v b v) hC.1 hC.2.1 (by rw [hC.2.2.1, hr]) (Or.inl ⟨nm, rfl⟩) ?_ (fun t ht hW => ⟨rfl, by rw [ht]; exact hH, hS.F ht⟩) hS.2.2 hd hC.2.2.2.1
  cases v with
  | ref i => exact Or.inr ⟨_, rfl⟩
  | null => exact Or.inl rfl
  | _ => simp [am_fv] at hv
end AMO
end
section
/-! soundness of the small machine: calls -/
theorem am_after {p : Program} {l : Launch} {e : Env} {R : Room} {s : State} {m : MethodId} {args : Array Value} {below : List Frame} {meth : Method} {c : Code} {H : Heap} {locs : List Loc} {k n : Nat} {Q : State → Prop} {pc : Nat} {ls : Array Slot} {st0 rest : List Value} {mc ms : Nat} {D : va_G} {cI cZ : ClassId} {b : Nat} {v : Option Value} {ab1 : List am_Cl} {a : Array Value}
    (hr : va_Run p l e R s m args below meth c H locs k n mc ms (F0 m pc ls st0) rest (am_Q D cI cZ b v ab1 a) (fun q => b ≤ q)) (hS : va_S (fun q => b ≤ q) s.heap H locs)
    (kk : ∀ (H1 : Heap) (locs1 : List Loc), am_H D cI cZ b ab1 H1 → va_S (fun q => b ≤ q) s.heap H1 locs1 → W p l e R s m args below meth c H1 locs1 (k + mc) (n + ms) Q (F0 m (pc + 3) ls ((v.map (am_v b)).toList ++ rest))) : W p l e R s m args below meth c H locs k n Q (F0 m pc ls st0) := by
  intro T hT X
  obtain ⟨v0, st₀, t, T', L, h0, X', hL, e1, e2, ⟨hv, hH1, hz, hk⟩, st⟩ := hr T hT X
  have hv0 : v0 = v.map (am_v b) := Outcome.returned.inj hv
  subst hv0
  rw [h0] at hz hk
  obtain ⟨t2, a1, b1⟩ := kk T'.heap (locs ++ L) (by rw [e1]; exact hH1)
    ⟨Nat.le_trans hS.1 (by rw [e1]; exact hz), fun q h1 h2 => by rw [e1, hk q (Nat.lt_of_lt_of_le h1 hS.1) h2]; exact hS.2.1 q h1 h2, fun q hq => by
      rcases List.mem_append.mp hq with h | h
      · exact hS.2.2 q h
      · exact hL q h⟩ T' rfl X'
  exact ⟨t2, st t2 a1, b1⟩
theorem am_blind (D : va_G) (cI cZ : ClassId) (b : Nat) (as : List Value) (ab : List am_Cl) : FrameBlind (fun a U => a = (as.map (am_v b)).toArray ∧ am_H D cI cZ b ab U.heap ∧ am_K D cI cZ U) := fun a U g mk h => ⟨h.1, h.2.1, am_K_call (U := U) (V := U.calling g mk a) rfl h.2.2⟩
/-- what is asked of a callee, apart from how it is named -/
def am_qk (S q : am_Sg) (n : Nat) : Prop := ((am_y q).cls ≠ "java/lang/invoke/MethodHandle" ∧ (am_y q).cls ≠ "java/lang/invoke/VarHandle" ∧ (parseMethodDescriptor (am_y q).desc).map (fun d => d.parameters.length) = some n) ∧ ((am_rm q).frames + 1 ≤ (am_rm S).frames ∧ 8 + (am_l q + 11) + (am_rm q).locals ≤ (am_rm S).locals) ∧ Cond.initialized (am_y q).cls ∈ am_gw
section AMC
variable {S q : am_Sg} {r : Option Value} {ab' : List am_Cl} {pc : Nat} {L rest as : List Value} {ab ab1 : List am_Cl} {k n idx : Nat} {v : Option Value}
theorem am_stk (b : Nat) (v : Option Value) (rest : List Value) : (v.map (am_v b)).toList ++ rest.map (am_v b) = (v.toList ++ rest).map (am_v b) := by cases v <;> rfl
theorem am_room8 {m : MethodId} {ls : Array Slot} {st : List Value} (b : Nat) (h : am_ct rest ≤ 8) : 2 * (F0 m pc ls st).monitorRoom + ((rest.map (am_v b)).map fun v => v.category).sum ≤ 8 := by
  rw [am_ct_eq]
  show 2 * 0 + _ ≤ 8
  omega
theorem am_t_static (hd : decode (am_c S) pc = .ok (.invokestatic idx, 3)) (hE : am_Ev q as ab v ab1) (hq : am_qk S q as.length) (hst : Cond.static (am_y q) ∈ am_gw) (hl : Cond.methodLink (am_y S).cls idx (am_y q) ∈ am_gw ∨ ∃ host, Cond.methodLinkNest (am_y S).cls idx (am_y q) host ∈ am_bw) (h8 : am_ct rest ≤ 8) (h1 : k + (am_rm q).cells ≤ (am_rm S).cells) (h2 : n + (am_rm q).slots ≤ (am_rm S).slots)
    (hk : am_T S r ab' (pc + 3) L (v.toList ++ rest) ab1 (k + (am_rm q).cells) (n + (am_rm q).slots)) : am_T S r ab' pc L (as.reverse ++ rest) ab k n := by
  intro l D cI cZ b p e s m args below meth c H locs ls hC hH hS hL hlen
  have hts := hC.2.2.2.2.2.2.2.1
  have hKs := hC.2.2.2.2.2.2.2.2.1
  have hp : PreS s H (fun a U => a = (as.map (am_v b)).toArray ∧ am_H D cI cZ b ab U.heap ∧ am_K D cI cZ U) (as.map (am_v b)) := ⟨am_blind D cI cZ b as ab, fun U hU hW => ⟨rfl, by rw [hU]; exact hH, am_K_warm hW hKs⟩⟩
  have fin : ∀ (H1 : Heap) (locs1 : List Loc), am_H D cI cZ b ab1 H1 → va_S (fun q => b ≤ q) s.heap H1 locs1 → W p l e (am_rm S) s m args below meth c H1 locs1 (k + (am_rm q).cells) (n + (am_rm q).slots) (MQ below (am_Q D cI cZ b r ab') args s (am_rm S).cells (am_rm S).slots (fun q => b ≤ q)) (F0 m (pc + 3) ls ((v.map (am_v b)).toList ++ rest.map (am_v b))) := by
    intro H1 locs1 g1 g2
    rw [am_stk]
    exact hk l D cI cZ b p e s m args below meth c H1 locs1 ls hC g1 g2 hL hlen
  rcases hl with hl | ⟨host, hl⟩
  · exact am_after (va_runS (As := as.map (am_v b)) (rest := rest.map (am_v b)) (nL := am_l S) (Ts := am_gw) ⟨hC.1, hC.2.1, hC.2.2.2.2.1, hC.2.2.2.2.2.1, hts⟩ (hE.2 l D cI cZ b) ⟨callB_of as.length hts (am_good hE.1) rfl rfl rfl (hts _ hq.2.2) (hts _ hl) hq.1 hq.2.1, hts _ hst⟩ hp rfl (by simp) hL.1 (by simp [List.map_reverse]) (am_room8 b h8) hd ⟨h1, h2⟩) hS fin
  · exact am_after (va_runSN (host := host) (As := as.map (am_v b)) (rest := rest.map (am_v b)) (nL := am_l S) (Ts := am_gw) ⟨hC.1, hC.2.1, hC.2.2.2.2.1, hC.2.2.2.2.2.1, hts⟩ (hE.2 l D cI cZ b) ⟨va_cnB as.length hts (am_good hE.1) rfl rfl rfl (hKs.2 _ hl) (hts _ hq.2.2) hq.1 hq.2.1, hts _ hst, trivial⟩ hp rfl (by simp) hL.1 (by simp [List.map_reverse]) (am_room8 b h8) hd ⟨h1, h2⟩) hS fin
theorem am_t_special {i : Nat} (hd : decode (am_c S) pc = .ok (.invokespecial idx, 3)) (hE : am_Ev q (.ref i :: as) ab v ab1) (hq : am_qk S q as.length) (hin : Cond.instanceMethod (am_y q) ∈ am_gw) (hnm : (am_y q).name = "<init>") (hrt : am_r q = none) (hl : Cond.methodLink (am_y S).cls idx (am_y q) ∈ am_gw ∨ ∃ host, Cond.methodLinkNest (am_y S).cls idx (am_y q) host ∈ am_bw) (h8 : am_ct rest ≤ 8) (h1 : k + (am_rm q).cells ≤ (am_rm S).cells) (h2 : n + (am_rm q).slots ≤ (am_rm S).slots)
    (hk : am_T S r ab' (pc + 3) L (v.toList ++ rest) ab1 (k + (am_rm q).cells) (n + (am_rm q).slots)) : am_T S r ab' pc L (as.reverse ++ .ref i :: rest) ab k n := by
  intro l D cI cZ b p e s m args below meth c H locs ls hC hH hS hL hlen
  obtain ⟨y, cc, ml, rt, rm⟩ := q
  have hrt : rt = none := hrt
  subst hrt
  have hts := hC.2.2.2.2.2.2.2.1
  have hKs := hC.2.2.2.2.2.2.2.2.1
  have hp : PreS s H (fun a U => a = ((Value.ref i :: as).map (am_v b)).toArray ∧ am_H D cI cZ b ab U.heap ∧ am_K D cI cZ U) (.ref (b + i) :: as.map (am_v b)) := ⟨am_blind D cI cZ b (.ref i :: as) ab, fun U hU hW => ⟨rfl, by rw [hU]; exact hH, am_K_warm hW hKs⟩⟩
  have fin : ∀ (H1 : Heap) (locs1 : List Loc), am_H D cI cZ b ab1 H1 → va_S (fun q => b ≤ q) s.heap H1 locs1 → W p l e (am_rm S) s m args below meth c H1 locs1 (k + rm.cells) (n + rm.slots) (MQ below (am_Q D cI cZ b r ab') args s (am_rm S).cells (am_rm S).slots (fun q => b ≤ q)) (F0 m (pc + 3) ls ((v.map (am_v b)).toList ++ rest.map (am_v b))) := by
    intro H1 locs1 g1 g2
    rw [am_stk]
    exact hk l D cI cZ b p e s m args below meth c H1 locs1 ls hC g1 g2 hL hlen
  rcases hl with hl | ⟨host, hl⟩
  · exact am_after (va_runI (As := as.map (am_v b)) (b := b + i) (rest := rest.map (am_v b)) (nL := am_l S) (Ts := am_gw) ⟨hC.1, hC.2.1, hC.2.2.2.2.1, hC.2.2.2.2.2.1, hts⟩ (hE.2 l D cI cZ b) ⟨callB_of as.length hts (am_good hE.1) rfl rfl rfl (hts _ hq.2.2) (hts _ hl) hq.1 hq.2.1, hnm, hts _ hin⟩ hp rfl (by simp) hL.1 (by simp [List.map_reverse, am_v]) (am_room8 b h8) hd ⟨h1, h2⟩) hS fin
  · exact am_after (va_runIN (host := host) (As := as.map (am_v b)) (b := b + i) (rest := rest.map (am_v b)) (nL := am_l S) (Ts := am_gw) ⟨hC.1, hC.2.1, hC.2.2.2.2.1, hC.2.2.2.2.2.1, hts⟩ (hE.2 l D cI cZ b) ⟨va_cnB as.length hts (am_good hE.1) rfl rfl rfl (hKs.2 _ hl) (hts _ hq.2.2) hq.1 hq.2.1, hnm, hts _ hin⟩ hp rfl (by simp) hL.1 (by simp [List.map_reverse, am_v]) (am_room8 b h8) hd ⟨h1, h2⟩) hS fin
/-- how a virtual call names its callee, for a receiver of class ci: itself, or by an inherited name -/
def am_vk (own : String) (idx : Nat) (ref : String) (ci : Nat) (y : MethodName) : Prop := ∃ (C : String) (T : u_T) (N : Nat), vwCl[ci]? = some (C, T, N) ∧ Cond.instanceMethod y ∈ am_gw ∧
  ((Cond.methodLink own idx y ∈ am_gw ∧ Cond.selects C y y ∈ am_gw) ∨ ∃ owner : String, Cond.methodLink own idx ⟨ref, y.name, y.desc⟩ ∈ am_gw ∧ Cond.sameMethod ref owner y.name y.desc ∈ am_gw ∧ Cond.selects C ⟨ref, y.name, y.desc⟩ y ∈ am_gw ∧ (owner ≠ "java/lang/invoke/MethodHandle" ∧ owner ≠ "java/lang/invoke/VarHandle") ∧ (y = ⟨owner, y.name, y.desc⟩ ∨ Cond.declares ⟨owner, y.name, y.desc⟩ ∈ am_bw))
theorem am_t_virtual {i ci : Nat} {ref : String} {fs : List Value} (hd : decode (am_c S) pc = .ok (.invokevirtual idx, 3)) (hE : am_Ev q (.ref i :: as) ab v ab1) (hq : am_qk S q as.length) (hV : am_vk (am_y S).cls idx ref ci (am_y q)) (hc : am_ls ab i = some (.inr (ci, fs))) (h8 : am_ct rest ≤ 8) (h1 : k + (am_rm q).cells ≤ (am_rm S).cells) (h2 : n + (am_rm q).slots ≤ (am_rm S).slots)
    (hk : am_T S r ab' (pc + 3) L (v.toList ++ rest) ab1 (k + (am_rm q).cells) (n + (am_rm q).slots)) : am_T S r ab' pc L (as.reverse ++ .ref i :: rest) ab k n := by
  intro l D cI cZ b p e s m args below meth c H locs ls hC hH hS hL hlen
  obtain ⟨C, T, N, hc0, hin, hV⟩ := hV
  have hts := hC.2.2.2.2.2.2.2.1
  have hKs := hC.2.2.2.2.2.2.2.2.1
  have hrecv := va_recv (q := (C, T, N)) hKs.1 (am_P hH) hc0 (am_ws_at (by rw [← am_ls_eq]; exact hc))
  have hp : PreV s H C (b + i) (fun a U => a = ((Value.ref i :: as).map (am_v b)).toArray ∧ am_H D cI cZ b ab U.heap ∧ am_K D cI cZ U) (as.map (am_v b)) := ⟨am_blind D cI cZ b (.ref i :: as) ab, hrecv, fun U hU hW => ⟨rfl, by rw [hU]; exact hH, am_K_warm hW hKs⟩⟩
  have fin : ∀ (H1 : Heap) (locs1 : List Loc), am_H D cI cZ b ab1 H1 → va_S (fun q => b ≤ q) s.heap H1 locs1 → W p l e (am_rm S) s m args below meth c H1 locs1 (k + (am_rm q).cells) (n + (am_rm q).slots) (MQ below (am_Q D cI cZ b r ab') args s (am_rm S).cells (am_rm S).slots (fun q => b ≤ q)) (F0 m (pc + 3) ls ((v.map (am_v b)).toList ++ rest.map (am_v b))) := by
    intro H1 locs1 g1 g2
    rw [am_stk]
    exact hk l D cI cZ b p e s m args below meth c H1 locs1 ls hC g1 g2 hL hlen
  rcases hV with ⟨hl, hse⟩ | ⟨owner, hl, hsm, hse, hmh, hdc⟩
  · exact am_after (va_runV (As := as.map (am_v b)) (b := b + i) (rest := rest.map (am_v b)) (nL := am_l S) (Ts := am_gw) ⟨hC.1, hC.2.1, hC.2.2.2.2.1, hC.2.2.2.2.2.1, hts⟩ (hE.2 l D cI cZ b) ⟨callB_of as.length hts (am_good hE.1) rfl rfl rfl (hts _ hq.2.2) (hts _ hl) hq.1 hq.2.1, hts _ hin, hts _ hse⟩ hp rfl (by simp) hL.1 (by simp [List.map_reverse, am_v]) (am_room8 b h8) hd ⟨h1, h2⟩) hS fin
  · have hdecl : va_Decl s ⟨owner, (am_y q).name, (am_y q).desc⟩ := by
      rcases hdc with h | h
      · rw [← h]; exact va_Decl.of (hts _ hin) (hts _ hE.1)
      · exact va_Decl.abs (hKs.2 _ h)
    have hcu : va_CU (am_rm S) s args (am_y S).cls C owner idx ⟨ref, (am_y q).name, (am_y q).desc⟩ (am_y q) (am_c q) (am_l q) (am_r q) (am_cw q :: am_gw) (am_rm q) (am_rm q).cells (am_rm q).slots as.length := by
      refine ⟨⟨rfl, rfl, hq.2.1.1, hq.2.1.2, pay_in hts (am_good hE.1), List.mem_cons_self⟩, hts _ hE.1, hts _ hq.2.2, hmh, fun sig h => ?_, hts _ hl, hts _ hsm, hdecl, hts _ hse, hts _ hin⟩
      have h2 := hq.1.2.2
      have h : parseMethodDescriptor (am_y q).desc = some sig := h
      rw [h] at h2
      exact (Option.some.inj h2).symm
    exact am_after (va_runU (As := as.map (am_v b)) (b := b + i) (rest := rest.map (am_v b)) (nL := am_l S) (Ts := am_gw) ⟨hC.1, hC.2.1, hC.2.2.2.2.1, hC.2.2.2.2.2.1, hts⟩ (hE.2 l D cI cZ b) hcu hp rfl (by simp) hL.1 (by simp [List.map_reverse, am_v]) (am_room8 b h8) hd ⟨h1, h2⟩) hS fin
theorem am_t_copy {N n0 n1 a0 a1 : Nat} {cn : Int32} {f g : Nat → Int32} (hd : decode (am_c S) pc = .ok (.invokestatic idx, 3)) (hl : Cond.methodLink (am_y S).cls idx arraycopyName ∈ am_gw) (hnat : Cond.native arraycopyName ∈ am_gw) (hst : Cond.static arraycopyName ∈ am_gw) (hini : Cond.initialized "java/lang/System" ∈ am_gw) (hf : 1 ≤ (am_rm S).frames) (ho : 8 + (nativeFrameWords "java/lang/System" "arraycopy" 5 + 11) ≤ (am_rm S).locals) (h8 : am_ct rest ≤ 8) (hn : ¬ cn < 0) (hN : cn.toNatClampNeg = N)
    (hc0 : am_ls ab a0 = some (.inl (false, n0, f))) (hc1 : am_ls ab a1 = some (.inl (false, n1, g))) (h4 : N ≤ n0) (h5 : N ≤ n1) (hk : am_T S r ab' (pc + 3) L rest (am_up ab a1 (.inl (false, n1, va_cpy f g 0 0 N))) k n) : am_T S r ab' pc L (.int cn :: .int 0 :: .ref a1 :: .int 0 :: .ref a0 :: rest) ab k n := by
  intro l D cI cZ b p e s m args below meth c H locs ls hC hH hS hL hlen
  have hts := hC.2.2.2.2.2.2.2.1
  have hKv := hC.2.2.2.2.2.2.2.2.1.1
  have nn : ∀ z : Int32, ¬ z < 0 → z.toInt = (z.toNatClampNeg : Int) := by
    intro z hz
    have hz0 : (0 : Int) ≤ z.toInt := by
      have := Int32.not_lt.mp hz
      simpa using Int32.le_iff_toInt_le.mp this
    show z.toInt = ((z.toInt.toNat : Nat) : Int)
    omega
  intro T hT X
  have e0 : H[b + a0]? = some (vp_cell cI (n0, .inl f)) := am_P hH a0 _ (am_ws_at (c := .inl (false, n0, f)) (by rw [← am_ls_eq]; exact hc0))
  have e1 : H[b + a1]? = some (vp_cell cI (n1, .inl g)) := am_P hH a1 _ (am_ws_at (c := .inl (false, n1, g)) (by rw [← am_ls_eq]; exact hc1))
  obtain ⟨-, k0, hk0, cm0, hkk0⟩ := (hKv.2 0 _ rfl).1 n0 (fun j => .int (f j))
  obtain ⟨-, k1, hk1, cm1, hkk1⟩ := (hKv.2 0 _ rfl).1 n1 (fun j => .int (g j))
  have z0 : ¬ (0 : Int32) < 0 := by decide
  have zc : (0 : Int32).toNatClampNeg = 0 := rfl
  obtain ⟨vm', X', step⟩ := X.arraycopy hC.1 hC.2.2.2.2.2.1 (hts _ hl) (hts _ hnat) (hts _ hst) (hts _ hini) (src := b + a0) (dst := b + a1) (cs := vp_cell cI (n0, .inl f)) (cd := vp_cell cI (n1, .inl g)) (srcPos := 0) (destPos := 0) (n := cn) (by rw [hT]; exact e0) (by rw [hT]; exact e1)
    (fun _ h => by cases h) (fun _ h => by cases h) (fun h => by cases h) (fun h => by cases h) hk0 hk1 hkk0 hkk1 (by simp [refKind]) z0 z0 hn
    (by rw [nn 0 z0, nn cn hn]; show ¬ _ > ((arrV cI n0 (fun j => .int (f j))).slots.size : Int); rw [arrV_size, zc, hN]; omega)
    (by rw [nn 0 z0, nn cn hn]; show ¬ _ > ((arrV cI n1 (fun j => .int (g j))).slots.size : Int); rw [arrV_size, zc, hN]; omega)
    (fun vm₁ _ i hi => by
      have e : (vp_cell cI (n0, .inl f)).slots.getD ((0 : Int32).toNatClampNeg + i) .null = .int (f ((0 : Int32).toNatClampNeg + i)) := by
        show (arrV cI n0 (fun j => .int (f j))).slots.getD _ _ = _
        rw [Array.getD_eq_getD_getElem?, arrV_read _ _ (by rw [hN] at hi; rw [zc]; omega)]
        rfl
      refine ⟨?_, ?_⟩
      · rw [e]
        rfl
      · rw [e]
        exact trivial)
    (g := F0 m pc ls (.int cn :: .int 0 :: .ref (b + a1) :: .int 0 :: .ref (b + a0) :: rest.map (am_v b))) rfl (by rw [hC.2.2.2.2.1]; exact hL.1) (rest := rest.map (am_v b)) rfl (by rw [hC.2.1]; exact hd) hf (by have := am_ct_eq b rest; show 2 * 0 + _ + _ ≤ _; rw [this]; omega)
  have e2 : copied (vp_cell cI (n0, .inl f)) (vp_cell cI (n1, .inl g)) 0 0 cn = vp_cell cI (n1, .inl (va_cpy f g 0 0 N)) := by
    have h := va_copied (n1 := n1) (sp := 0) (dp := 0) (n := cn.toNatClampNeg) (fun z => Value.int z) cI cI f g (n0 := n0) (by rw [hN]; omega)
    rw [← hN]
    exact h
  rw [e2] at X' step
  have hl2 : b + a1 < H.size := (Array.getElem?_eq_some_iff.mp e1).1
  have hheap : ((T.setVm vm').setCell (b + a1) (vp_cell cI (n1, .inl (va_cpy f g 0 0 N)))).heap = H.setIfInBounds (b + a1) (vp_cell cI (n1, .inl (va_cpy f g 0 0 N))) := by rw [← hT]; rfl
  have oq : ∀ q : Nat, q ≠ b + a1 → (H.setIfInBounds (b + a1) (vp_cell cI (n1, .inl (va_cpy f g 0 0 N))))[q]? = H[q]? := fun q hq => by simp [Array.getElem?_setIfInBounds, Ne.symm hq]
  have hz1 : (H.setIfInBounds (b + a1) (vp_cell cI (n1, .inl (va_cpy f g 0 0 N)))).size = H.size := by simp
  obtain ⟨t, g1, g2⟩ := hk l D cI cZ b p e s m args below meth c _ _ ls hC (am_H_set hH hc1 hz1 (show (H.setIfInBounds (b + a1) _)[b + a1]? = some _ by simp [Array.getElem?_setIfInBounds, hl2]) oq) ⟨by rw [hz1]; exact hS.1, fun q g1 g2 => by
      rw [oq q (fun e => g2 (by rw [e]; exact Nat.le_add_right b a1))]
      exact hS.2.1 q g1 g2, fun q hq => by
      rcases List.mem_append.mp hq with h | h
      · exact hS.2.2 q h
      · obtain ⟨z, -, hz⟩ := List.mem_map.mp h
        rw [← hz]
        exact Nat.le_add_right b a1⟩ hL hlen _ hheap X'
  exact ⟨t, step t g1, g2⟩
end AMC
end
section
/-! soundness of the small machine: rows are checked by a program, walks are sound -/
def am_at (i : Nat) (w : Cond) : Bool := match am_tbl[i]? with
  | some u => decide (u = w) && goodWord w
  | none => false
def am_atb (i : Nat) (w : Cond) : Bool := match am_tbl[i]? with
  | some u => decide (u = w) && am_isb w
  | none => false
theorem am_at_in {i : Nat} {w : Cond} (h : am_at i w = true) : w ∈ am_gw := by
  unfold am_at at h
  split at h
  · rename_i u hu
    simp only [Bool.and_eq_true, decide_eq_true_eq] at h
    rw [h.1] at hu
    exact am_mem hu h.2
  · cases h
theorem am_atb_in {i : Nat} {w : Cond} (h : am_atb i w = true) : w ∈ am_bw := by
  unfold am_atb at h
  split at h
  · rename_i u hu
    simp only [Bool.and_eq_true, decide_eq_true_eq] at h
    rw [h.1] at hu
    exact am_memb hu h.2
  · cases h
def am_fkb (own : String) (idx k : Nat) (ref : String) (p0 p1 : Nat) (ci : Nat) : Bool := match vwCl[ci]? with
  | some (_, T, N) => decide (k < N) && am_at p0 (.fieldLink own idx ref (T k).2.1 (T k).2.2.1) && (decide ((T k).1 = ref) || am_at p1 (.sameField ref (T k).1 (T k).2.1 (T k).2.2.1))
  | none => false
theorem am_fkb_ok {own ref : String} {idx k p0 p1 ci : Nat} (h : am_fkb own idx k ref p0 p1 ci = true) : am_fk own idx k ref ci := by
  unfold am_fkb at h
  split at h
  · rename_i C T N hc
    simp only [Bool.and_eq_true, Bool.or_eq_true, decide_eq_true_eq] at h
    exact ⟨C, T, N, hc, h.1.1, am_at_in h.1.2, h.2.imp id am_at_in⟩
  · cases h
def am_sob (sort : Int32) : Option FieldType → Bool
  | some .int => decide (sort = 0)
  | some .boolean => decide (sort = 1)
  | some (.object _) => decide (sort = 2)
  | some (.array _) => decide (sort = 2)
  | _ => false
def am_pkb (own nm : String) (idx k : Nat) (ref : String) (sort : Int32) (p0 p1 : Nat) (ci : Nat) : Bool := match vwCl[ci]? with
  | some (_, T, N) => decide (k < N) && am_at p0 (.fieldLink own idx ref (T k).2.1 (T k).2.2.1) && (decide ((T k).1 = ref) || am_at p1 (.sameField ref (T k).1 (T k).2.1 (T k).2.2.1)) && (decide ((T k).2.2.2 = false) || (decide ((T k).2.2.2 = true) && decide (nm = "<init>") && decide ((T k).1 = own))) && am_sob sort (parseFieldDescriptor (T k).2.2.1)
  | none => false
theorem am_pkb_ok {own nm ref : String} {sort : Int32} {idx k p0 p1 ci : Nat} (h : am_pkb own nm idx k ref sort p0 p1 ci = true) : am_pk own nm idx k ref ci sort := by
  unfold am_pkb at h
  split at h
  · rename_i C T N hc
    simp only [Bool.and_eq_true, Bool.or_eq_true, decide_eq_true_eq] at h
    obtain ⟨⟨⟨⟨h1, h2⟩, h3⟩, h4⟩, h5⟩ := h
    cases hp : parseFieldDescriptor (T k).2.2.1 with
    | none => rw [hp] at h5; cases h5
    | some ty =>
      rw [hp] at h5
      refine ⟨C, T, N, ty, hc, h1, am_at_in h2, h3.imp id am_at_in, h4.imp id (fun h => ⟨h.1.1, h.1.2, h.2⟩), hp, ?_⟩
      cases ty <;> first | (simp [am_sob] at h5; done) | (simp only [am_sob, decide_eq_true_eq] at h5; simp [h5])
  · cases h
def am_qkb (S q : am_Sg) (n p0 : Nat) : Bool := decide ((am_y q).cls ≠ "java/lang/invoke/MethodHandle") && decide ((am_y q).cls ≠ "java/lang/invoke/VarHandle") && decide ((parseMethodDescriptor (am_y q).desc).map (fun d => d.parameters.length) = some n) && decide ((am_rm q).frames + 1 ≤ (am_rm S).frames) && decide (8 + (am_l q + 11) + (am_rm q).locals ≤ (am_rm S).locals) && am_at p0 (.initialized (am_y q).cls)
theorem am_qkb_ok {S q : am_Sg} {n p0 : Nat} (h : am_qkb S q n p0 = true) : am_qk S q n := by
  simp only [am_qkb, Bool.and_eq_true, decide_eq_true_eq] at h
  exact ⟨⟨h.1.1.1.1.1, h.1.1.1.1.2, h.1.1.1.2⟩, ⟨h.1.1.2, h.1.2⟩, am_at_in h.2⟩
def am_lkb (own : String) (idx : Nat) (ref : String) (y : MethodName) (p0 : Nat) : Bool := (decide (ref = "") && am_at p0 (.methodLink own idx y)) || am_atb p0 (.methodLinkNest own idx y ref)
theorem am_lkb_ok {own ref : String} {idx p0 : Nat} {y : MethodName} (h : am_lkb own idx ref y p0 = true) : Cond.methodLink own idx y ∈ am_gw ∨ ∃ host, Cond.methodLinkNest own idx y host ∈ am_bw := by
  simp only [am_lkb, Bool.or_eq_true, Bool.and_eq_true, decide_eq_true_eq] at h
  exact h.imp (fun h => am_at_in h.2) (fun h => ⟨ref, am_atb_in h⟩)
/-- places: the callee as an instance method, the link, the selection, then the inherited name's, then its declaration -/
def am_vkb (own : String) (idx : Nat) (ref : String) (ci : Nat) (y : MethodName) (p0 p1 p2 p3 p4 : Nat) : Bool := match vwCl[ci]? with
  | some (C, _, _) => am_at p0 (.instanceMethod y) && ((decide (ref = "") && am_at p1 (.methodLink own idx y) && am_at p2 (.selects C y y)) || (match am_tbl[p3]? with
    | some (.sameMethod _ owner _ _) => am_at p1 (.methodLink own idx ⟨ref, y.name, y.desc⟩) && am_at p3 (.sameMethod ref owner y.name y.desc) && am_at p2 (.selects C ⟨ref, y.name, y.desc⟩ y) && decide (owner ≠ "java/lang/invoke/MethodHandle") && decide (owner ≠ "java/lang/invoke/VarHandle") && (decide (y = ⟨owner, y.name, y.desc⟩) || am_atb p4 (.declares ⟨owner, y.name, y.desc⟩))
    | _ => false))
  | none => false
theorem am_vkb_ok {own ref : String} {idx ci p0 p1 p2 p3 p4 : Nat} {y : MethodName} (h : am_vkb own idx ref ci y p0 p1 p2 p3 p4 = true) : am_vk own idx ref ci y := by
  unfold am_vkb at h
  split at h
  · rename_i C T N hc
    simp only [Bool.and_eq_true, Bool.or_eq_true, decide_eq_true_eq] at h
    refine ⟨C, T, N, hc, am_at_in h.1, ?_⟩
    rcases h.2 with h2 | h2
    · exact Or.inl ⟨am_at_in h2.1.2, am_at_in h2.2⟩
    · split at h2
      · rename_i owner _ _ _
        simp only [Bool.and_eq_true, Bool.or_eq_true, decide_eq_true_eq] at h2
        exact Or.inr ⟨owner, am_at_in h2.1.1.1.1.1, am_at_in h2.1.1.1.1.2, am_at_in h2.1.1.1.2, ⟨h2.1.1.2, h2.1.2⟩, h2.2.imp id am_atb_in⟩
      · cases h2
  · cases h
def am_tl (pc : Nat) : Int → List Int → List (Int32 × Nat)
  | _, [] => []
  | lo, o :: l => (Int32.ofInt lo, ((pc : Int) + o).toNat) :: am_tl pc (lo + 1) l
def am_pl (pc : Nat) : List (Int × Int) → List (Int32 × Nat)
  | [] => []
  | q :: l => (Int32.ofInt q.1, ((pc : Int) + q.2).toNat) :: am_pl pc l
def am_p (ps : List Nat) (i : Nat) : Nat := ps.getD i 0
def am_vall (S : am_Sg) (idx n : Nat) (ref : String) : List (Nat × am_Sg) → List Nat → Bool
  | [], _ => true
  | q :: l, ps => am_qkb S q.2 n (am_p ps 0) && am_vkb (am_y S).cls idx ref q.1 (am_y q.2) (am_p ps 1) (am_p ps 2) (am_p ps 3) (am_p ps 4) (am_p ps 5) && am_vall S idx n ref l (ps.drop 6)
theorem am_vall_ok {S : am_Sg} {idx n : Nat} {ref : String} : ∀ {l : List (Nat × am_Sg)} {ps : List Nat}, am_vall S idx n ref l ps = true → ∀ q ∈ l, am_qk S q.2 n ∧ am_vk (am_y S).cls idx ref q.1 (am_y q.2)
  | [], _, _, q, hq => by cases hq
  | a :: l, ps, h, q, hq => by
    simp only [am_vall, Bool.and_eq_true] at h
    rcases List.mem_cons.mp hq with rfl | hq
    · exact ⟨am_qkb_ok h.1.1, am_vkb_ok h.1.2⟩
    · exact am_vall_ok h.2 q hq
/-- the check of a row -/
def am_rkb (S : am_Sg) (pc : Nat) (w : am_Rw) : Bool := match w.1 with
  | .iconst i => decide (decode (am_c S) pc = .ok (.iconst i, 1)) && decide (Int32.ofInt i = w_v w)
  | .bipush i => decide (decode (am_c S) pc = .ok (.bipush i, 2)) && decide ((Int8.ofInt i).toInt32 = w_v w)
  | .sipush i => decide (decode (am_c S) pc = .ok (.sipush i, 3)) && decide ((Int16.ofInt i).toInt32 = w_v w)
  | .ldc i => decide (decode (am_c S) pc = .ok (.ldc i, 2)) && am_at (am_p (w_ps w) 0) (.constant (am_y S).cls i (w_v w))
  | .iinc i d => decide (decode (am_c S) pc = .ok (.iinc i d, 3)) && decide (Int32.ofInt d = w_v w)
  | .iload i => decide (decode (am_c S) pc = .ok (.iload i, 2))
  | .istore i => decide (decode (am_c S) pc = .ok (.istore i, 2))
  | .if_icmp c o => decide (decode (am_c S) pc = .ok (.if_icmp c o, 3)) && decide ((pc : Int) + o = (w_k w : Int))
  | .ifCond c o => decide (decode (am_c S) pc = .ok (.ifCond c o, 3)) && decide ((pc : Int) + o = (w_k w : Int))
  | .ifnonnull o => decide (decode (am_c S) pc = .ok (.ifnonnull o, 3)) && decide ((pc : Int) + o = (w_k w : Int))
  | .goto o => decide (decode (am_c S) pc = .ok (.goto o, 3)) && decide ((pc : Int) + o = (w_k w : Int))
  | .tableswitch d lo hi os => (match decode (am_c S) pc with
    | .ok (i, _) => decide (i = .tableswitch d lo hi os)
    | _ => false) && decide ((pc : Int) + d = (w_k w : Int)) && decide (w_sw w = am_tl pc lo os.toList) && os.toList.all (fun o => decide (0 ≤ (pc : Int) + o)) && decide (hi + 1 = lo + os.toList.length) && decide (-2147483648 ≤ lo) && decide (hi < 2147483648)
  | .lookupswitch d qs => (match decode (am_c S) pc with
    | .ok (i, _) => decide (i = .lookupswitch d qs)
    | _ => false) && decide ((pc : Int) + d = (w_k w : Int)) && decide (w_sw w = am_pl pc qs.toList) && qs.toList.all (fun o => decide (0 ≤ (pc : Int) + o.2)) && qs.toList.all (fun o => decide ((Int32.ofInt o.1).toInt = o.1)) && (qs.toList.zip (qs.toList.drop 1)).all (fun (a, next) => a.1 < next.1) && (am_pl pc qs.toList).all (fun q => (am_pl pc qs.toList).all (fun q2 => !(decide (q.1 = q2.1)) || decide (q.2 = q2.2)))
  | .getfield i => decide (decode (am_c S) pc = .ok (.getfield i, 3)) && (w_cs w).all (am_fkb (am_y S).cls i (w_k w) (w_r w) (am_p (w_ps w) 0) (am_p (w_ps w) 1))
  | .putfield i => decide (decode (am_c S) pc = .ok (.putfield i, 3)) && (w_cs w).all (am_pkb (am_y S).cls (am_y S).name i (w_k w) (w_r w) (w_v w) (am_p (w_ps w) 0) (am_p (w_ps w) 1))
  | .newarray t => decide (decode (am_c S) pc = .ok (.newarray t, 2)) && am_at (am_p (w_ps w) 0) (.arrayClass (newarray.typeOf t)) && (decide (t = .int) || decide (t = .boolean)) && decide (¬ w_v w < 0) && decide ((w_v w).toNatClampNeg = w_k w) && decide (w_k w * 8 ≤ 536870912)
  | .new i => decide (decode (am_c S) pc = .ok (.new i, 3)) && (match vwCl[w_k w]? with
    | some (C, _, N) => decide (N = (am_df (w_k w)).length) && am_at (am_p (w_ps w) 0) (.classLink (am_y S).cls i C) && am_at (am_p (w_ps w) 1) (.instantiable C (am_df (w_k w)).length) && am_at (am_p (w_ps w) 2) (.initialized C)
    | none => false)
  | .invokestatic i => decide (decode (am_c S) pc = .ok (.invokestatic i, 3)) && (match w_qs w with
    | q :: _ => am_qkb S q.2 (w_k w) (am_p (w_ps w) 0) && am_at (am_p (w_ps w) 1) (.static (am_y q.2)) && am_lkb (am_y S).cls i (w_r w) (am_y q.2) (am_p (w_ps w) 2)
    | [] => match w_cs w with
      | [] => am_at (am_p (w_ps w) 0) (.methodLink (am_y S).cls i Lib.Math.min.name) && am_at (am_p (w_ps w) 1) (.static Lib.Math.min.name) && am_at (am_p (w_ps w) 2) (.initialized "java/lang/Math") && am_at (am_p (w_ps w) 3) (.code Lib.Math.min.name Lib.Math.min.code 2 (some .int)) && decide (1 ≤ (am_rm S).frames) && decide (21 ≤ (am_rm S).locals)
      | _ => am_at (am_p (w_ps w) 0) (.methodLink (am_y S).cls i arraycopyName) && am_at (am_p (w_ps w) 1) (.native arraycopyName) && am_at (am_p (w_ps w) 2) (.static arraycopyName) && am_at (am_p (w_ps w) 3) (.initialized "java/lang/System") && decide (1 ≤ (am_rm S).frames) && decide (8 + (nativeFrameWords "java/lang/System" "arraycopy" 5 + 11) ≤ (am_rm S).locals) && decide (¬ w_v w < 0) && decide ((w_v w).toNatClampNeg = w_k w))
  | .invokevirtual i => decide (decode (am_c S) pc = .ok (.invokevirtual i, 3)) && am_vall S i (w_k w) (w_r w) (w_qs w) (w_ps w)
  | .invokespecial i => decide (decode (am_c S) pc = .ok (.invokespecial i, 3)) && (match w_qs w with
    | q :: _ => am_qkb S q.2 (w_k w) (am_p (w_ps w) 0) && am_at (am_p (w_ps w) 1) (.instanceMethod (am_y q.2)) && decide ((am_y q.2).name = "<init>") && decide (am_r q.2 = none) && am_lkb (am_y S).cls i (w_r w) (am_y q.2) (am_p (w_ps w) 2)
    | [] => am_at (am_p (w_ps w) 0) (.methodLink (am_y S).cls i Lib.objectInit) && am_at (am_p (w_ps w) 1) (.instanceMethod Lib.objectInit) && am_at (am_p (w_ps w) 2) (.code Lib.objectInit ⟨#[0xb1]⟩ 1 none) && decide (1 ≤ (am_rm S).frames) && decide (20 ≤ (am_rm S).locals))
  | i => decide (decode (am_c S) pc = .ok (i, 1))
abbrev am_Good (S : am_Sg) (cd : am_Cd) : Prop := cd.all (fun ch => ch.2.all (fun q => am_rkb S q.1 q.2)) = true
theorem am_fr_ok {pc : Nat} {q : Nat × am_Rw} : ∀ {l : List (Nat × am_Rw)}, am_fr pc l = some q → q ∈ l ∧ q.1 = pc
  | [], h => by simp [am_fr] at h
  | a :: l, h => by
    rw [am_fr] at h
    cases hb : Nat.beq a.1 pc with
    | true =>
      rw [hb] at h
      have e : a = q := by simpa using h
      rw [← e]
      exact ⟨List.mem_cons_self, Nat.eq_of_beq_eq_true hb⟩
    | false =>
      rw [hb] at h
      have := am_fr_ok (show am_fr pc l = some q by simpa using h)
      exact ⟨List.mem_cons_of_mem _ this.1, this.2⟩
theorem am_lk_ok {pc : Nat} {q : Nat × am_Rw} : ∀ {l : am_Cd}, am_lk pc l = some q → (∃ ch ∈ l, q ∈ ch.2) ∧ q.1 = pc
  | [], h => by simp [am_lk] at h
  | a :: l, h => by
    rw [am_lk] at h
    cases hb : Nat.blt pc a.1 with
    | true =>
      rw [hb] at h
      have := am_fr_ok (show am_fr pc a.2 = some q by simpa using h)
      exact ⟨⟨a, List.mem_cons_self, this.1⟩, this.2⟩
    | false =>
      rw [hb] at h
      obtain ⟨⟨ch, h1, h2⟩, h3⟩ := am_lk_ok (show am_lk pc l = some q by simpa using h)
      exact ⟨⟨ch, List.mem_cons_of_mem _ h1, h2⟩, h3⟩
theorem am_Good_row {S : am_Sg} {cd : am_Cd} (hg : am_Good S cd) {pc : Nat} {q : Nat × am_Rw} (h : am_lk pc cd = some q) : am_rkb S q.1 q.2 = true ∧ q.1 = pc := by
  obtain ⟨⟨ch, h1, h2⟩, h3⟩ := am_lk_ok h
  exact ⟨List.all_eq_true.mp (List.all_eq_true.mp hg ch h1) q h2, h3⟩
section AMS
variable {S : am_Sg} {r : Option Value} {ab' : List am_Cl} {K : am_Ps} {pc : Nat} {L rest : List Value} {ab : List am_Cl} {k n : Nat}
theorem am_go_T (hK : ∀ pc L st ab k n, K pc L st ab k n → am_T S r ab' pc L st ab k n) {t : Nat} {st : List Value} (h : am_go K (am_T S r ab') pc t L st ab k n) : am_T S r ab' t L st ab k n := by
  unfold am_go at h
  cases hb : Nat.blt pc t with
  | true => rw [hb] at h; exact hK _ _ _ _ _ _ h
  | false => rw [hb] at h; exact h
theorem am_ic_imp {c : ClassFile.Cond} {x y : Int32} {A A' B B' : Prop} (hA : A → A') (hB : B → B') (h : am_ic c x y A B) : am_ic c x y A' B' := by
  cases c <;> first | exact ⟨fun q => hA (h.1 q), fun q => hB (h.2 q)⟩ | exact ⟨fun q => hB (h.1 q), fun q => hA (h.2 q)⟩
theorem am_sw_T (hK : ∀ pc L st ab k n, K pc L st ab k n → am_T S r ab' pc L st ab k n) {d : Nat} {x : Int32} {st : List Value} : ∀ {l : List (Int32 × Nat)}, am_sw K (am_T S r ab') pc d x L st ab k n l → (∃ q ∈ l, x = q.1 ∧ am_T S r ab' q.2 L st ab k n) ∨ ((∀ q ∈ l, ¬ x = q.1) ∧ am_T S r ab' d L st ab k n)
  | [], h => Or.inr ⟨fun q hq => absurd hq List.not_mem_nil, am_go_T hK h⟩
  | a :: l, h => by
    by_cases hx : x = a.1
    · exact Or.inl ⟨a, List.mem_cons_self, hx, am_go_T hK (h.1 hx)⟩
    · rcases am_sw_T hK (h.2 hx) with ⟨q, h1, h2, h3⟩ | ⟨h1, h2⟩
      · exact Or.inl ⟨q, List.mem_cons_of_mem _ h1, h2, h3⟩
      · refine Or.inr ⟨fun q hq => ?_, h2⟩
        rcases List.mem_cons.mp hq with rfl | hq
        · exact hx
        · exact h1 q hq
theorem am_tl_mem {pc : Nat} {q : Int32 × Nat} : ∀ {os : List Int} {lo : Int}, q ∈ am_tl pc lo os → ∃ (j : Nat) (o : Int), os[j]? = some o ∧ q = (Int32.ofInt (lo + j), ((pc : Int) + o).toNat)
  | [], lo, h => by simp [am_tl] at h
  | o :: os, lo, h => by
    rw [am_tl] at h
    rcases List.mem_cons.mp h with rfl | h
    · exact ⟨0, o, rfl, by simp⟩
    · obtain ⟨j, o', h1, h2⟩ := am_tl_mem h
      exact ⟨j + 1, o', by simpa using h1, by rw [h2]; congr 2; push_cast; omega⟩
theorem am_tl_get {pc : Nat} : ∀ {os : List Int} {lo : Int} {j : Nat} {o : Int}, os[j]? = some o → (Int32.ofInt (lo + j), ((pc : Int) + o).toNat) ∈ am_tl pc lo os
  | [], lo, j, o, h => by simp at h
  | a :: os, lo, 0, o, h => by
    simp at h
    subst h
    rw [am_tl]
    simp
  | a :: os, lo, j + 1, o, h => by
    rw [am_tl]
    have := am_tl_get (pc := pc) (lo := lo + 1) (show os[j]? = some o by simpa using h)
    refine List.mem_cons_of_mem _ ?_
    have e : lo + 1 + (j : Int) = lo + ((j + 1 : Nat) : Int) := by push_cast; omega
    rw [e] at this
    exact this
theorem am_toInt {z : Int} (h1 : -2147483648 ≤ z) (h2 : z < 2147483648) : (Int32.ofInt z).toInt = z := Int32.toInt_ofInt_of_le h1 h2
theorem am_t_table {d lo hi : Int} {os : Array Int} {len : Nat} {x : Int32} {t : Nat} {sw : List (Int32 × Nat)} (hd : decode (am_c S) pc = .ok (.tableswitch d lo hi os, len)) (ht : (pc : Int) + d = (t : Int)) (hsw : sw = am_tl pc lo os.toList) (hpos : ∀ o ∈ os.toList, 0 ≤ (pc : Int) + o) (hhi : hi + 1 = lo + os.toList.length) (h1 : -2147483648 ≤ lo) (h2 : hi < 2147483648)
    (h : (∃ q ∈ sw, x = q.1 ∧ am_T S r ab' q.2 L rest ab k n) ∨ ((∀ q ∈ sw, ¬ x = q.1) ∧ am_T S r ab' t L rest ab k n)) : am_T S r ab' pc L (.int x :: rest) ab k n := by
  intro l D cI cZ b p e s m args below meth c H locs ls hC hH hS hL hlen
  subst hsw
  rcases h with ⟨q, hq, hx, hk⟩ | ⟨hne, hk⟩
  · obtain ⟨j, o, hj, rfl⟩ := am_tl_mem hq
    have hjl : j < os.toList.length := (List.getElem?_eq_some_iff.mp hj).1
    have hxi : x.toInt = lo + j := by rw [hx]; exact am_toInt (by omega) (by omega)
    have ho : 0 ≤ (pc : Int) + o := hpos o (List.mem_of_getElem? hj)
    refine lv_tableIn (tgt := ((pc : Int) + o).toNat) (off := o) hC.1 hC.2.1 hd (by omega) (by omega) ?_ (by omega) (hk l D cI cZ b p e s m args below meth c H locs ls hC hH hS hL hlen)
    rw [hxi, show (lo + (j : Int) - lo).toNat = j by omega, ← Array.getElem?_toList]
    exact hj
  · refine lv_tableOut (tgt := t) hC.1 hC.2.1 hd ?_ ht (hk l D cI cZ b p e s m args below meth c H locs ls hC hH hS hL hlen)
    rcases Int.lt_or_le x.toInt lo with g | g
    · exact Or.inl g
    · rcases Int.lt_or_le hi x.toInt with g2 | g2
      · exact Or.inr g2
      · exfalso
        have hlt : (x.toInt - lo).toNat < os.toList.length := by omega
        have := am_tl_get (pc := pc) (lo := lo) (List.getElem?_eq_getElem hlt)
        refine hne _ this ?_
        show x = Int32.ofInt (lo + ((x.toInt - lo).toNat : Int))
        rw [show lo + ((x.toInt - lo).toNat : Int) = x.toInt by omega]
        exact (Int32.ofInt_toInt x).symm
theorem am_off {pc t : Nat} {d : Int} {x : Int32} {P : Nat → Prop} (ht : (pc : Int) + d = (t : Int)) : ∀ {qs : List (Int × Int)}, (∀ o ∈ qs, 0 ≤ (pc : Int) + o.2) → (∀ o ∈ qs, (Int32.ofInt o.1).toInt = o.1) → ((∃ q ∈ am_pl pc qs, x = q.1 ∧ P q.2) ∨ ((∀ q ∈ am_pl pc qs, ¬ x = q.1) ∧ P t)) → (∀ q q2 : Int32 × Nat, q ∈ am_pl pc qs → q2 ∈ am_pl pc qs → q.1 = q2.1 → q.2 = q2.2) → ∃ (off : Int) (tg : Nat), Op.lookupswitch.offset qs d x.toInt = off ∧ (pc : Int) + off = (tg : Int) ∧ P tg
  | [], _, _, h, _ => by
    rcases h with ⟨q, hq, -⟩ | ⟨-, h⟩
    · simp [am_pl] at hq
    · exact ⟨d, t, rfl, ht, h⟩
  | a :: qs, h1, h2, h, hu => by
    by_cases hx : x = Int32.ofInt a.1
    · refine ⟨a.2, ((pc : Int) + a.2).toNat, ?_, ?_, ?_⟩
      · obtain ⟨a1, a2⟩ := a
        rw [Op.lookupswitch.offset_cons, if_pos]
        rw [hx]
        exact (h2 (a1, a2) List.mem_cons_self).symm
      · have := h1 a List.mem_cons_self
        omega
      · rcases h with ⟨q, hq, hxq, hp⟩ | ⟨hne, -⟩
        · have e := hu q (Int32.ofInt a.1, ((pc : Int) + a.2).toNat) hq (by rw [am_pl]; exact List.mem_cons_self) (by rw [← hxq]; exact hx)
          exact (show q.2 = ((pc : Int) + a.2).toNat from e) ▸ hp
        · exact absurd hx (hne (Int32.ofInt a.1, ((pc : Int) + a.2).toNat) (by rw [am_pl]; exact List.mem_cons_self))
    · obtain ⟨off, tg, g1, g2, g3⟩ := am_off ht (qs := qs) (fun o ho => h1 o (List.mem_cons_of_mem _ ho)) (fun o ho => h2 o (List.mem_cons_of_mem _ ho)) (by
        rcases h with ⟨q, hq, hxq, hp⟩ | ⟨hne, hp⟩
        · rw [am_pl] at hq
          rcases List.mem_cons.mp hq with rfl | hq
          · exact absurd hxq hx
          · exact Or.inl ⟨q, hq, hxq, hp⟩
        · exact Or.inr ⟨fun q hq => hne q (by rw [am_pl]; exact List.mem_cons_of_mem _ hq), hp⟩) (fun q q2 g1 g2 => hu q q2 (by rw [am_pl]; exact List.mem_cons_of_mem _ g1) (by rw [am_pl]; exact List.mem_cons_of_mem _ g2))
      refine ⟨off, tg, ?_, g2, g3⟩
      obtain ⟨a1, a2⟩ := a
      rw [lv_osw hx (h2 (a1, a2) List.mem_cons_self)]
      exact g1
end AMS
end
section
/-! soundness of the small machine: a walk -/
section AMW
variable {S : am_Sg} {r : Option Value} {ab' : List am_Cl} {K : am_Ps} {pc : Nat} {L rest : List Value} {ab : List am_Cl} {k n : Nat}
theorem am_t_lookup {d : Int} {qs : Array (Int × Int)} {len : Nat} {x : Int32} {t : Nat} {sw : List (Int32 × Nat)} (hd : decode (am_c S) pc = .ok (.lookupswitch d qs, len)) (ht : (pc : Int) + d = (t : Int)) (hsw : sw = am_pl pc qs.toList) (hpos : ∀ o ∈ qs.toList, 0 ≤ (pc : Int) + o.2) (hint : ∀ o ∈ qs.toList, (Int32.ofInt o.1).toInt = o.1) (hso : (qs.toList.zip (qs.toList.drop 1)).all (fun (a, next) => a.1 < next.1) = true) (hu : ∀ q q2 : Int32 × Nat, q ∈ am_pl pc qs.toList → q2 ∈ am_pl pc qs.toList → q.1 = q2.1 → q.2 = q2.2)
    (h : (∃ q ∈ sw, x = q.1 ∧ am_T S r ab' q.2 L rest ab k n) ∨ ((∀ q ∈ sw, ¬ x = q.1) ∧ am_T S r ab' t L rest ab k n)) : am_T S r ab' pc L (.int x :: rest) ab k n := by
  intro l D cI cZ b p e s m args below meth c H locs ls hC hH hS hL hlen
  subst hsw
  obtain ⟨off, tg, g1, g2, g3⟩ := am_off (P := fun t => am_T S r ab' t L rest ab k n) ht hpos hint h hu
  exact lv_lookup hC.1 hC.2.1 hd hso g1 g2 (g3 l D cI cZ b p e s m args below meth c H locs ls hC hH hS hL hlen)
theorem am_cal_T (hK : ∀ pc L st ab k n, K pc L st ab k n → am_T S r ab' pc L st ab k n) {q : am_Sg} {as : List Value} (h : am_cal S q K pc as L rest ab k n) : ∃ (v : Option Value) (ab1 : List am_Cl), am_ct rest ≤ 8 ∧ k + (am_rm q).cells ≤ (am_rm S).cells ∧ n + (am_rm q).slots ≤ (am_rm S).slots ∧ am_Ev q as ab v ab1 ∧ am_T S r ab' pc L (v.toList ++ rest) ab1 (k + (am_rm q).cells) (n + (am_rm q).slots) := by
  unfold am_cal at h
  cases hb : (Nat.ble (am_ct rest) 8 && Nat.ble (k + (am_rm q).cells) (am_rm S).cells && Nat.ble (n + (am_rm q).slots) (am_rm S).slots) with
  | false => rw [hb] at h; exact h.elim
  | true =>
    rw [hb] at h
    simp only [Bool.and_eq_true, Nat.ble_eq] at hb
    obtain ⟨v, ab1, h1, h2⟩ := h
    refine ⟨v, ab1, hb.1.1, hb.1.2, hb.2, h1, ?_⟩
    cases hz : (Nat.beq (am_rm q).cells 0 && Nat.beq (am_rm q).slots 0) with
    | false => rw [hz] at h2; exact hK _ _ _ _ _ _ h2
    | true =>
      rw [hz] at h2
      simp only [Bool.and_eq_true] at hz
      rw [Nat.eq_of_beq_eq_true hz.1, Nat.eq_of_beq_eq_true hz.2]
      exact hK _ _ _ _ _ _ h2
set_option maxHeartbeats 4000000 in
theorem am_s1_T (hK : ∀ pc L st ab k n, K pc L st ab k n → am_T S r ab' pc L st ab k n) {w : am_Rw} (hw : am_rkb S pc w = true) {st : List Value} (h : am_s1 S r ab' (am_T S r ab') K w pc L st ab k n) : am_T S r ab' pc L st ab k n := by
  obtain ⟨ins, aux, lit, ref, cs, qs, sw, ps⟩ := w
  cases ins with
  | iconst i =>
    simp only [am_rkb, Bool.and_eq_true, decide_eq_true_eq] at hw
    exact am_t_iconst hw.1 hw.2 (hK _ _ _ _ _ _ h)
  | bipush i =>
    simp only [am_rkb, Bool.and_eq_true, decide_eq_true_eq] at hw
    exact am_t_bipush hw.1 hw.2 (hK _ _ _ _ _ _ h)
  | sipush i =>
    simp only [am_rkb, Bool.and_eq_true, decide_eq_true_eq] at hw
    exact am_t_sipush hw.1 hw.2 (hK _ _ _ _ _ _ h)
  | ldc i =>
    simp only [am_rkb, Bool.and_eq_true, decide_eq_true_eq] at hw
    exact am_t_ldc hw.1 (am_at_in hw.2) (hK _ _ _ _ _ _ h)
  | iload_n i =>
    simp only [am_rkb, decide_eq_true_eq] at hw
    simp only [am_s1] at h
    split at h
    · rename_i x hx; exact am_t_iload_n hw hx (hK _ _ _ _ _ _ h)
    · exact h.elim
  | iload i =>
    simp only [am_rkb, decide_eq_true_eq] at hw
    simp only [am_s1] at h
    split at h
    · rename_i x hx; exact am_t_iload hw hx (hK _ _ _ _ _ _ h)
    · exact h.elim
  | aload_n i =>
    simp only [am_rkb, decide_eq_true_eq] at hw
    simp only [am_s1] at h
    split at h
    · rename_i x hx; exact am_t_aload_n hw hx (hK _ _ _ _ _ _ h)
    · rename_i hx; exact am_t_aload_nN hw hx (hK _ _ _ _ _ _ h)
    · exact h.elim
  | istore_n i =>
    simp only [am_rkb, decide_eq_true_eq] at hw
    simp only [am_s1] at h
    split at h
    · split at h
      · rename_i hu; exact am_t_istore_n hw hu (hK _ _ _ _ _ _ h)
      · exact h.elim
    · exact h.elim
  | istore i =>
    simp only [am_rkb, decide_eq_true_eq] at hw
    simp only [am_s1] at h
    split at h
    · split at h
      · rename_i hu; exact am_t_istore hw hu (hK _ _ _ _ _ _ h)
      · exact h.elim
    · exact h.elim
  | astore_n i =>
    simp only [am_rkb, decide_eq_true_eq] at hw
    simp only [am_s1] at h
    split at h
    · split at h
      · rename_i hu; exact am_t_astore_n hw hu (hK _ _ _ _ _ _ h)
      · exact h.elim
    · split at h
      · rename_i hu; exact am_t_astore_nN hw hu (hK _ _ _ _ _ _ h)
      · exact h.elim
    · exact h.elim
  | iinc i d =>
    simp only [am_rkb, Bool.and_eq_true, decide_eq_true_eq] at hw
    simp only [am_s1] at h
    split at h
    · rename_i hu; exact am_t_iinc hw.1 hw.2 hu (hK _ _ _ _ _ _ h)
    · exact h.elim
  | iadd =>
    simp only [am_rkb, decide_eq_true_eq] at hw
    simp only [am_s1] at h
    split at h
    · exact am_t_iadd hw (hK _ _ _ _ _ _ h)
    · exact h.elim
  | isub =>
    simp only [am_rkb, decide_eq_true_eq] at hw
    simp only [am_s1] at h
    split at h
    · exact am_t_isub hw (hK _ _ _ _ _ _ h)
    · exact h.elim
  | imul =>
    simp only [am_rkb, decide_eq_true_eq] at hw
    simp only [am_s1] at h
    split at h
    · exact am_t_imul hw (hK _ _ _ _ _ _ h)
    · exact h.elim
  | iand =>
    simp only [am_rkb, decide_eq_true_eq] at hw
    simp only [am_s1] at h
    split at h
    · exact am_t_iand hw (hK _ _ _ _ _ _ h)
    · exact h.elim
  | ior =>
    simp only [am_rkb, decide_eq_true_eq] at hw
    simp only [am_s1] at h
    split at h
    · exact am_t_ior hw (hK _ _ _ _ _ _ h)
    · exact h.elim
  | ishl =>
    simp only [am_rkb, decide_eq_true_eq] at hw
    simp only [am_s1] at h
    split at h
    · exact am_t_ishl hw (hK _ _ _ _ _ _ h)
    · exact h.elim
  | ishr =>
    simp only [am_rkb, decide_eq_true_eq] at hw
    simp only [am_s1] at h
    split at h
    · exact am_t_ishr hw (hK _ _ _ _ _ _ h)
    · exact h.elim
  | iushr =>
    simp only [am_rkb, decide_eq_true_eq] at hw
    simp only [am_s1] at h
    split at h
    · exact am_t_iushr hw (hK _ _ _ _ _ _ h)
    · exact h.elim
  | idiv =>
    simp only [am_rkb, decide_eq_true_eq] at hw
    simp only [am_s1] at h
    split at h
    · rename_i y x rest
      by_cases hy : y = 0
      · simp only [hy, decide_true, cond_true] at h
      · simp only [hy, decide_false, cond_false] at h
        exact am_t_idiv hw hy (hK _ _ _ _ _ _ h)
    · exact h.elim
  | irem =>
    simp only [am_rkb, decide_eq_true_eq] at hw
    simp only [am_s1] at h
    split at h
    · rename_i y x rest
      by_cases hy : y = 0
      · simp only [hy, decide_true, cond_true] at h
      · simp only [hy, decide_false, cond_false] at h
        exact am_t_irem hw hy (hK _ _ _ _ _ _ h)
    · exact h.elim
  | dup =>
    simp only [am_rkb, decide_eq_true_eq] at hw
    simp only [am_s1] at h
    split at h
    · rename_i v rest
      cases hv : am_ok v with
      | false => simp only [hv, cond_false] at h
      | true =>
        simp only [hv, cond_true] at h
        exact am_t_dup hw hv (hK _ _ _ _ _ _ h)
    · exact h.elim
  | dup2 =>
    simp only [am_rkb, decide_eq_true_eq] at hw
    simp only [am_s1] at h
    split at h
    · rename_i u v rest
      cases hv : (am_ok u && am_ok v) with
      | false => simp only [hv, cond_false] at h
      | true =>
        simp only [hv, cond_true] at h
        simp only [Bool.and_eq_true] at hv
        exact am_t_dup2 hw hv.1 hv.2 (hK _ _ _ _ _ _ h)
    · exact h.elim
  | pop =>
    simp only [am_rkb, decide_eq_true_eq] at hw
    simp only [am_s1] at h
    split at h
    · rename_i v rest
      cases hv : am_ok v with
      | false => simp only [hv, cond_false] at h
      | true =>
        simp only [hv, cond_true] at h
        exact am_t_pop hw hv (hK _ _ _ _ _ _ h)
    · exact h.elim
  | aconst_null =>
    simp only [am_rkb, decide_eq_true_eq] at hw
    exact am_t_null hw (hK _ _ _ _ _ _ h)
  | if_icmp c o =>
    simp only [am_rkb, Bool.and_eq_true, decide_eq_true_eq] at hw
    simp only [am_s1] at h
    split at h
    · exact am_t_icmp hw.1 hw.2 (am_ic_imp (am_go_T hK) (hK _ _ _ _ _ _) h)
    · exact h.elim
  | ifCond c o =>
    simp only [am_rkb, Bool.and_eq_true, decide_eq_true_eq] at hw
    simp only [am_s1] at h
    split at h
    · exact am_t_if hw.1 hw.2 (am_ic_imp (am_go_T hK) (hK _ _ _ _ _ _) h)
    · exact h.elim
  | ifnonnull o =>
    simp only [am_rkb, Bool.and_eq_true, decide_eq_true_eq] at hw
    simp only [am_s1] at h
    split at h
    · exact am_t_ifnonnull hw.1 hw.2 (am_go_T hK h)
    · exact am_t_ifnonnullN hw.1 (hK _ _ _ _ _ _ h)
    · exact h.elim
  | goto o =>
    simp only [am_rkb, Bool.and_eq_true, decide_eq_true_eq] at hw
    exact am_t_goto hw.1 hw.2 (am_go_T hK h)
  | tableswitch d lo hi os =>
    simp only [am_rkb, Bool.and_eq_true, decide_eq_true_eq, List.all_eq_true] at hw
    obtain ⟨⟨⟨⟨⟨⟨h1, h2⟩, h3⟩, h4⟩, h5⟩, h6⟩, h7⟩ := hw
    simp only [am_s1] at h
    split at h
    · split at h1
      · rename_i i len hd
        rw [decide_eq_true_eq] at h1
        rw [h1] at hd
        exact am_t_table hd h2 h3 h4 h5 h6 h7 (am_sw_T hK h)
      · cases h1
    · exact h.elim
  | lookupswitch d qs =>
    simp only [am_rkb, Bool.and_eq_true] at hw
    obtain ⟨⟨⟨⟨⟨⟨h1, h2⟩, h3⟩, h4⟩, h5⟩, h6⟩, h7⟩ := hw
    simp only [am_s1] at h
    split at h
    · split at h1
      · rename_i i len hd
        rw [decide_eq_true_eq] at h1 h2 h3
        rw [h1] at hd
        simp only [List.all_eq_true, decide_eq_true_eq] at h4 h5
        refine am_t_lookup hd h2 h3 h4 h5 h6 ?_ (am_sw_T hK h)
        intro q q2 hq hq2 he
        have := List.all_eq_true.mp (List.all_eq_true.mp h7 q hq) q2 hq2
        simpa [he] using this
      · cases h1
    · exact h.elim
  | getfield i =>
    simp only [am_rkb, Bool.and_eq_true, decide_eq_true_eq, List.all_eq_true] at hw
    simp only [am_s1] at h
    split at h
    · split at h
      · rename_i ci fs hc
        cases hv : am_in cs ci with
        | false => simp only [hv, cond_false] at h
        | true =>
          simp only [hv, cond_true] at h
          split at h
          · rename_i v hv2
            exact am_t_getfield hw.1 (am_fkb_ok (hw.2 _ (am_in_mem hv))) hc hv2 (hK _ _ _ _ _ _ h)
          · exact h.elim
      · exact h.elim
    · exact h.elim
  | putfield i =>
    simp only [am_rkb, Bool.and_eq_true, decide_eq_true_eq, List.all_eq_true] at hw
    simp only [am_s1] at h
    split at h
    · rename_i v j rest
      split at h
      · rename_i ci fs hc
        cases hv : (am_in cs ci && am_fv lit v) with
        | false => simp only [hv, cond_false] at h
        | true =>
          simp only [hv, cond_true] at h
          simp only [Bool.and_eq_true] at hv
          split at h
          · rename_i u hu
            exact am_t_putfield hw.1 (am_pkb_ok (hw.2 _ (am_in_mem hv.1))) hc hu hv.2 (hK _ _ _ _ _ _ h)
          · exact h.elim
      · exact h.elim
    · exact h.elim
  | iaload =>
    simp only [am_rkb, decide_eq_true_eq] at hw
    simp only [am_s1] at h
    split at h
    · split at h
      · rename_i hc; exact am_t_iaload hw hc h.1 (hK _ _ _ _ _ _ h.2)
      · exact h.elim
    · exact h.elim
  | iastore =>
    simp only [am_rkb, decide_eq_true_eq] at hw
    simp only [am_s1] at h
    split at h
    · split at h
      · rename_i hc; exact am_t_iastore hw hc h.1 (hK _ _ _ _ _ _ h.2)
      · exact h.elim
    · exact h.elim
  | baload =>
    simp only [am_rkb, decide_eq_true_eq] at hw
    simp only [am_s1] at h
    split at h
    · split at h
      · rename_i hc; exact am_t_baload hw hc h.1 (hK _ _ _ _ _ _ h.2)
      · exact h.elim
    · exact h.elim
  | bastore =>
    simp only [am_rkb, decide_eq_true_eq] at hw
    simp only [am_s1] at h
    split at h
    · split at h
      · rename_i hc; exact am_t_bastore hw hc h.1 (hK _ _ _ _ _ _ h.2)
      · exact h.elim
    · exact h.elim
  | newarray t =>
    simp only [am_rkb, Bool.and_eq_true, Bool.or_eq_true, decide_eq_true_eq] at hw
    obtain ⟨⟨⟨⟨⟨h1, h2⟩, h3⟩, h4⟩, h5⟩, h6⟩ := hw
    simp only [am_s1] at h
    split at h
    · rename_i c rest
      cases hv : (decide (c = lit) && Nat.ble (k + 1) (am_rm S).cells && Nat.ble (n + aux) (am_rm S).slots) with
      | false => simp only [hv, cond_false] at h
      | true =>
        simp only [hv, cond_true] at h
        simp only [Bool.and_eq_true, Nat.ble_eq, decide_eq_true_eq] at hv
        obtain ⟨⟨rfl, g1⟩, g2⟩ := hv
        exact am_t_newarray h1 (am_at_in h2) h3 h4 h5 h6 g1 g2 (hK _ _ _ _ _ _ h)
    · exact h.elim
  | new i =>
    simp only [am_rkb, Bool.and_eq_true, decide_eq_true_eq] at hw
    obtain ⟨h1, h2⟩ := hw
    split at h2
    · rename_i C T N hc
      simp only [Bool.and_eq_true, decide_eq_true_eq] at h2
      obtain ⟨⟨⟨rfl, g2⟩, g3⟩, g4⟩ := h2
      simp only [am_s1] at h
      cases hv : (Nat.ble (k + 1) (am_rm S).cells && Nat.ble (n + (am_df aux).length) (am_rm S).slots) with
      | false => simp only [hv, cond_false] at h
      | true =>
        simp only [hv, cond_true] at h
        simp only [Bool.and_eq_true, Nat.ble_eq] at hv
        exact am_t_new h1 hc (am_at_in g2) (am_at_in g3) (am_at_in g4) hv.1 hv.2 (hK _ _ _ _ _ _ h)
    · cases h2
  | invokestatic i =>
    cases qs with
    | cons q0 l0 =>
      simp only [am_rkb, Bool.and_eq_true, decide_eq_true_eq] at hw
      obtain ⟨h1, ⟨g1, g2⟩, g3⟩ := hw
      simp only [am_s1] at h
      split at h
      · rename_i as rest htk
        obtain ⟨e1, rfl⟩ := am_tk_len htk
        obtain ⟨v, ab1, c1, c2, c3, c4, c5⟩ := am_cal_T hK h
        exact am_t_static h1 c4 (by rw [e1]; exact am_qkb_ok g1) (am_at_in g2) (am_lkb_ok g3) c1 c2 c3 c5
      · exact h.elim
    | nil =>
      cases cs with
      | nil =>
        simp only [am_rkb, Bool.and_eq_true, decide_eq_true_eq] at hw
        obtain ⟨h1, ⟨⟨⟨⟨g1, g2⟩, g3⟩, g4⟩, g5⟩, g6⟩ := hw
        simp only [am_s1] at h
        split at h
        · rename_i y x rest
          cases hv : (Nat.ble (am_ct rest) 8 && Nat.ble k (am_rm S).cells && Nat.ble n (am_rm S).slots) with
          | false => simp only [hv, cond_false] at h
          | true =>
            simp only [hv, cond_true] at h
            simp only [Bool.and_eq_true, Nat.ble_eq] at hv
            exact am_t_min h1 (am_at_in g1) (am_at_in g2) (am_at_in g3) (am_at_in g4) g5 g6 hv.1.1 hv.1.2 hv.2 (hK _ _ _ _ _ _ h)
        · exact h.elim
      | cons c0 l0 =>
        simp only [am_rkb, Bool.and_eq_true, decide_eq_true_eq] at hw
        obtain ⟨h1, ⟨⟨⟨⟨⟨⟨g1, g2⟩, g3⟩, g4⟩, g5⟩, g6⟩, g7⟩, g8⟩ := hw
        simp only [am_s1] at h
        split at h
        · rename_i c dp a1 sp a0 rest
          split at h
          · rename_i n0 f n1 g hc0 hc1
            cases hv : (Nat.ble (am_ct rest) 8 && decide (c = lit) && decide (dp = 0) && decide (sp = 0) && Nat.ble aux n0 && Nat.ble aux n1) with
            | false => simp only [hv, cond_false] at h
            | true =>
              simp only [hv, cond_true] at h
              simp only [Bool.and_eq_true, Nat.ble_eq, decide_eq_true_eq] at hv
              obtain ⟨⟨⟨⟨⟨b1, rfl⟩, rfl⟩, rfl⟩, b5⟩, b6⟩ := hv
              exact am_t_copy h1 (am_at_in g1) (am_at_in g2) (am_at_in g3) (am_at_in g4) g5 g6 b1 g7 g8 hc0 hc1 b5 b6 (hK _ _ _ _ _ _ h)
          · exact h.elim
        · exact h.elim
  | invokevirtual i =>
    simp only [am_rkb, Bool.and_eq_true, decide_eq_true_eq] at hw
    obtain ⟨h1, h2⟩ := hw
    simp only [am_s1] at h
    split at h
    · rename_i as j rest htk
      split at h
      · rename_i ci fs hc
        split at h
        · rename_i q hq
          obtain ⟨e1, rfl⟩ := am_tk_len htk
          obtain ⟨v, ab1, c1, c2, c3, c4, c5⟩ := am_cal_T hK h
          have hv := am_vall_ok h2 _ (am_cl_mem hq)
          exact am_t_virtual h1 c4 (by rw [e1]; exact hv.1) hv.2 hc c1 c2 c3 c5
        · exact h.elim
      · exact h.elim
    · exact h.elim
  | invokespecial i =>
    cases qs with
    | cons q0 l0 =>
      simp only [am_rkb, Bool.and_eq_true, decide_eq_true_eq] at hw
      obtain ⟨h1, ⟨⟨⟨g1, g2⟩, g3⟩, g4⟩, g5⟩ := hw
      simp only [am_s1] at h
      split at h
      · rename_i as j rest htk
        obtain ⟨e1, rfl⟩ := am_tk_len htk
        obtain ⟨v, ab1, c1, c2, c3, c4, c5⟩ := am_cal_T hK h
        exact am_t_special h1 c4 (by rw [e1]; exact am_qkb_ok g1) (am_at_in g2) g3 g4 (am_lkb_ok g5) c1 c2 c3 c5
      · exact h.elim
    | nil =>
      simp only [am_rkb, Bool.and_eq_true, decide_eq_true_eq] at hw
      obtain ⟨h1, ⟨⟨⟨g1, g2⟩, g3⟩, g4⟩, g5⟩ := hw
      simp only [am_s1] at h
      split at h
      · rename_i j rest
        cases hv : Nat.ble (am_ct rest) 8 with
        | false => simp only [hv, cond_false] at h
        | true =>
          simp only [hv, cond_true] at h
          rw [Nat.ble_eq] at hv
          exact am_t_objInit h1 (am_at_in g1) (am_at_in g2) (am_at_in g3) g4 g5 hv (hK _ _ _ _ _ _ h)
      · exact h.elim
  | ireturn =>
    simp only [am_rkb, decide_eq_true_eq] at hw
    simp only [am_s1] at h
    split at h
    · cases hv : (Nat.ble k (am_rm S).cells && Nat.ble n (am_rm S).slots) with
      | false => simp only [hv, cond_false] at h
      | true =>
        simp only [hv, cond_true] at h
        simp only [Bool.and_eq_true, Nat.ble_eq] at hv
        obtain ⟨rfl, rfl, ty, g1, g2⟩ := h
        exact am_t_ireturn hw g1 g2 hv.1 hv.2
    · exact h.elim
  | return_ =>
    simp only [am_rkb, decide_eq_true_eq] at hw
    simp only [am_s1] at h
    split at h
    · cases hv : (Nat.ble k (am_rm S).cells && Nat.ble n (am_rm S).slots) with
      | false => simp only [hv, cond_false] at h
      | true =>
        simp only [hv, cond_true] at h
        simp only [Bool.and_eq_true, Nat.ble_eq] at hv
        obtain ⟨rfl, rfl, g1⟩ := h
        exact am_t_return hw g1 hv.1 hv.2
    · exact h.elim
  | areturn =>
    simp only [am_rkb, decide_eq_true_eq] at hw
    simp only [am_s1] at h
    split at h
    · rename_i v
      cases hv : (Nat.ble k (am_rm S).cells && Nat.ble n (am_rm S).slots && am_fv 2 v) with
      | false => simp only [hv, cond_false] at h
      | true =>
        simp only [hv, cond_true] at h
        simp only [Bool.and_eq_true, Nat.ble_eq] at hv
        obtain ⟨rfl, rfl, nm, g1⟩ := h
        exact am_t_areturn hw g1 hv.2 hv.1.1 hv.1.2
    · exact h.elim
  | _ => exact False.elim h
theorem am_wp_T {cd : am_Cd} (hg : am_Good S cd) : ∀ (f : Nat) {pc : Nat} {L st : List Value} {ab : List am_Cl} {k n : Nat}, am_wp S cd r ab' f pc L st ab k n → am_T S r ab' pc L st ab k n
  | 0, pc, L, st, ab, k, n, h => h
  | f + 1, pc, L, st, ab, k, n, h => by
    rw [am_wp] at h
    split at h
    · rename_i q hq
      obtain ⟨h1, h2⟩ := am_Good_row hg hq
      rw [h2] at h h1
      exact am_s1_T (fun pc L st ab k n hh => am_wp_T hg f hh) h1 h
    · exact h.elim
theorem am_args : ∀ (as : List Value) (i : Nat) (b : Nat), (∀ v ∈ as, am_ok v = true) → ∀ (j : Nat) (v : Value), as[j]? = some v → (i + j, am_v b v) ∈ lv_args i (as.map (am_v b))
  | [], i, b, _, j, v, h => by simp at h
  | a :: as, i, b, ho, 0, v, h => by
    simp at h
    subst h
    simp [lv_args]
  | a :: as, i, b, ho, j + 1, v, h => by
    have hc : (am_v b a).category = 1 := by rw [am_v_cat]; exact am_ok_cat (ho a List.mem_cons_self)
    have := am_args as (i + 1) b (fun v hv => ho v (List.mem_cons_of_mem _ hv)) j v (by simpa using h)
    simp only [List.map_cons, lv_args, hc]
    refine List.mem_cons_of_mem _ ?_
    rw [show i + (j + 1) = i + 1 + j by omega]
    exact this
theorem am_sl_len (b : Nat) : ∀ (as : List Value), (∀ v ∈ as, am_ok v = true) → (lg_sl (as.map (am_v b))).length = as.length
  | [], _ => rfl
  | a :: as, ho => by
    have := am_sl_len b as (fun v hv => ho v (List.mem_cons_of_mem _ hv))
    have h1 := ho a List.mem_cons_self
    cases a <;> first | (simp [am_ok] at h1; done) | (simp_all [lg_sl, am_v, Value.category]; try omega)
/-- a contract out of the walk of its body; what isn't an argument is the mark retAddr 0 -/
theorem am_Ev_of {as : List Value} (hcw : am_cw S ∈ am_gw) (hpl : plainName (am_y S).cls = true) (ho : as.all am_ok = true) (hle : Nat.ble as.length (am_l S) = true)
    (h : am_T S r ab' 0 (as ++ List.replicate (am_l S - as.length) (.retAddr 0)) [] ab 0 0) : am_Ev S as ab r ab' := by
  refine ⟨hcw, fun l D cI cZ b => ?_⟩
  have hle : as.length ≤ am_l S := Nat.le_of_ble_eq_true hle
  have ho : ∀ v ∈ as, am_ok v = true := List.all_eq_true.mp ho
  refine Met.ofW (cc := am_c S) (maxL := am_l S) (ret := am_r S) hpl rfl ?_
  intro p e s m args below meth c s₁ B hml hv
  obtain ⟨rfl, hH, hK⟩ := hv
  have hts := atoms_spec (ws := am_cw S :: am_gw) B.pre
  have hown : s.vm.findClass (am_y S).cls = some m.cls := findClass_of_methodNamed B.named
  have hin : meth.name = (am_y S).name := (name_of_methodNamed B.named B.method).1
  have hl := lv_entry (as.map (am_v b)) (n := am_l S) (by rw [am_sl_len b as ho]; exact hle)
  rw [lg_entry_eq]
  refine h l D cI cZ b p e s m _ below meth c s.heap [] _ ⟨B.exec, B.bytes, B.returns, B.notSynchronized, hml, hown, hin, fun w hw => hts w (List.mem_cons_of_mem _ hw), hK, ?_⟩ hH va_S.rf ?_ ?_
  · rw [hH.1]; exact Nat.le_add_right _ _
  · refine ⟨hl.1, hl.2.1, fun q hq => ?_⟩
    obtain ⟨v, h1, h2, h3⟩ := am_lv_inv hq
    have h4 : as[q.1]? = some v := by
      by_cases hj : q.1 < as.length
      · rw [List.getElem?_append_left hj] at h1; exact h1
      · rw [List.getElem?_append_right (by omega)] at h1
        have := List.mem_of_getElem? h1
        rw [List.eq_of_mem_replicate this] at h2
        cases h2
    have := hl.2.2 _ (by have := am_args as 0 b ho q.1 v h4; rw [Nat.zero_add] at this; exact this)
    rw [h3]; exact this
  · simp; omega
end AMW
end
section
abbrev sF_threeRegisters : am_Sg := (yX2_threeRegisters, cX2_threeRegisters, 5, some .int, { frames := 0, cells := 0, slots := 0, locals := 0 })
def cdF_threeRegisters : am_Cd := [(11, [(0, rw0 (.iload_n 0)), (1, rwL (.bipush 25) 25), (3, rw0 .ishl), (4, rw0 (.iload 4)), (6, rwL (.bipush 20) 20), (8, rw0 .ishl), (9, rw0 .ior), (10, rw0 (.iload_n 3))]), (21, [(11, rwL (.bipush 15) 15), (13, rw0 .ishl), (14, rw0 .ior), (15, rw0 (.iload_n 1)), (16, rwL (.bipush 12) 12), (18, rw0 .ishl), (19, rw0 .ior), (20, rw0 (.iload_n 2))]), (29, [(21, rwL (.bipush 7) 7), (23, rw0 .ishl), (24, rw0 .ior), (25, rwL (.bipush 51) 51), (27, rw0 .ior), (28, rw0 .ireturn)])]
set_option maxRecDepth 100000 in
theorem cwF_threeRegisters : am_cw sF_threeRegisters ∈ am_gw := am_mem (i := 149) rfl rfl
set_option maxRecDepth 100000 in
theorem gdF_threeRegisters : am_Good sF_threeRegisters cdF_threeRegisters := by decide +kernel
abbrev sF_withShort : am_Sg := (yX2_withShort, cX2_withShort, 5, some .int, { frames := 0, cells := 0, slots := 0, locals := 0 })
def cdF_withShort : am_Cd := [(11, [(0, rw0 (.iload 4)), (2, rwL (.bipush 20) 20), (4, rw0 .ishl), (5, rw0 (.iload_n 3)), (6, rwL (.bipush 15) 15), (8, rw0 .ishl), (9, rw0 .ior), (10, rw0 (.iload_n 0))]), (21, [(11, rwL (.bipush 12) 12), (13, rw0 .ishl), (14, rw0 .ior), (15, rw0 (.iload_n 2)), (16, rwL (.bipush 7) 7), (18, rw0 .ishl), (19, rw0 .ior), (20, rw0 (.iload_n 1))]), (23, [(21, rw0 .ior), (22, rw0 .ireturn)])]
set_option maxRecDepth 100000 in
theorem cwF_withShort : am_cw sF_withShort ∈ am_gw := am_mem (i := 152) rfl rfl
set_option maxRecDepth 100000 in
theorem gdF_withShort : am_Good sF_withShort cdF_withShort := by decide +kernel
abbrev sF_branch : am_Sg := (yX2_branch, cX2_branch, 6, some .int, { frames := 0, cells := 0, slots := 0, locals := 0 })
def cdF_branch : am_Cd := [(10, [(0, rw0 (.iload_n 3)), (1, rwL (.bipush 12) 12), (3, rw0 .ishr), (4, rwL (.iconst 1) 1), (5, rw0 .iand), (6, rwL (.bipush 6) 6), (8, rw0 .ishl), (9, rw0 (.iload_n 3))]), (20, [(10, rwL (.iconst 5) 5), (11, rw0 .ishr), (12, rwL (.bipush 63) 63), (14, rw0 .iand), (15, rw0 .ior), (16, rw0 (.istore 4)), (18, rw0 (.iload_n 3)), (19, rwL (.iconst 1) 1)]), (30, [(20, rw0 .ishr), (21, rwL (.bipush 15) 15), (23, rw0 .iand), (24, rwL (.iconst 1) 1), (25, rw0 .ishl), (26, rw0 (.iload_n 3)), (27, rwL (.bipush 11) 11), (29, rw0 .ishr)]), (41, [(30, rwL (.iconst 1) 1), (31, rw0 .iand), (32, rw0 .ior), (33, rw0 (.istore 5)), (35, rw0 (.iload 4)), (37, rwL (.bipush 25) 25), (39, rw0 .ishl), (40, rw0 (.iload_n 2))]), (51, [(41, rwL (.bipush 20) 20), (43, rw0 .ishl), (44, rw0 .ior), (45, rw0 (.iload_n 1)), (46, rwL (.bipush 15) 15), (48, rw0 .ishl), (49, rw0 .ior), (50, rw0 (.iload_n 0))]), (63, [(51, rwL (.bipush 12) 12), (53, rw0 .ishl), (54, rw0 .ior), (55, rw0 (.iload 5)), (57, rwL (.bipush 7) 7), (59, rw0 .ishl), (60, rw0 .ior), (61, rwL (.bipush 99) 99)]), (65, [(63, rw0 .ior), (64, rw0 .ireturn)])]
set_option maxRecDepth 100000 in
theorem cwF_branch : am_cw sF_branch ∈ am_gw := am_mem (i := 155) rfl rfl
set_option maxRecDepth 100000 in
theorem gdF_branch : am_Good sF_branch cdF_branch := by decide +kernel
abbrev sF_jump : am_Sg := (yX2_jump, cX2_jump, 3, some .int, { frames := 0, cells := 0, slots := 0, locals := 0 })
def cdF_jump : am_Cd := [(10, [(0, rw0 (.iload_n 1)), (1, rwL (.bipush 20) 20), (3, rw0 .ishr), (4, rwL (.iconst 1) 1), (5, rw0 .iand), (6, rwL (.bipush 11) 11), (8, rw0 .ishl), (9, rw0 (.iload_n 1))]), (20, [(10, rwL (.iconst 1) 1), (11, rw0 .ishr), (12, rwL (.sipush 1023) 1023), (15, rw0 .iand), (16, rwL (.iconst 1) 1), (17, rw0 .ishl), (18, rw0 .ior), (19, rw0 (.iload_n 1))]), (30, [(20, rwL (.bipush 11) 11), (22, rw0 .ishr), (23, rwL (.iconst 1) 1), (24, rw0 .iand), (25, rw0 .ior), (26, rw0 (.istore_n 2)), (27, rw0 (.iload_n 2)), (28, rwL (.bipush 20) 20)]), (42, [(30, rw0 .ishl), (31, rw0 (.iload_n 1)), (32, rwL (.bipush 12) 12), (34, rw0 .ishr), (35, rwL (.sipush 255) 255), (38, rw0 .iand), (39, rwL (.bipush 12) 12), (41, rw0 .ishl)]), (52, [(42, rw0 .ior), (43, rw0 (.iload_n 0)), (44, rwL (.bipush 7) 7), (46, rw0 .ishl), (47, rw0 .ior), (48, rwL (.bipush 111) 111), (50, rw0 .ior), (51, rw0 .ireturn)])]
set_option maxRecDepth 100000 in
theorem cwF_jump : am_cw sF_jump ∈ am_gw := am_mem (i := 158) rfl rfl
set_option maxRecDepth 100000 in
theorem gdF_jump : am_Good sF_jump cdF_jump := by decide +kernel
abbrev sF_pack : am_Sg := (yX2_pack, cX2_pack, 4, some .int, { frames := 1, cells := 0, slots := 0, locals := 25 })
def cdF_pack : am_Cd := [(84, [(0, rw0 (.iload_n 0)), (1, rwS (.tableswitch 255 0 14 #[75, 84, 94, 104, 114, 124, 137, 146, 178, 186, 194, 202, 208, 218, 241]) 256 [(0, 76), (1, 85), (2, 95), (3, 105), (4, 115), (5, 125), (6, 138), (7, 147), (8, 179), (9, 187), (10, 195), (11, 203), (12, 209), (13, 219), (14, 242)]), (76, rwL (.iconst 0) 0), (77, rwL (.iconst 0) 0), (78, rw0 (.iload_n 1)), (79, rw0 (.iload_n 2)), (80, rw0 (.iload_n 3)), (81, rwC (.invokestatic 26) 5 "" [(0, sF_threeRegisters)] [49, 148, 147])]), (95, [(84, rw0 .ireturn), (85, rwL (.bipush 32) 32), (87, rwL (.iconst 0) 0), (88, rw0 (.iload_n 1)), (89, rw0 (.iload_n 2)), (90, rw0 (.iload_n 3)), (91, rwC (.invokestatic 26) 5 "" [(0, sF_threeRegisters)] [49, 148, 147]), (94, rw0 .ireturn)]), (106, [(95, rwL (.iconst 0) 0), (96, rwL (.bipush 7) 7), (98, rw0 (.iload_n 1)), (99, rw0 (.iload_n 2)), (100, rw0 (.iload_n 3)), (101, rwC (.invokestatic 26) 5 "" [(0, sF_threeRegisters)] [49, 148, 147]), (104, rw0 .ireturn), (105, rwL (.iconst 0) 0)]), (118, [(106, rwL (.bipush 6) 6), (108, rw0 (.iload_n 1)), (109, rw0 (.iload_n 2)), (110, rw0 (.iload_n 3)), (111, rwC (.invokestatic 26) 5 "" [(0, sF_threeRegisters)] [49, 148, 147]), (114, rw0 .ireturn), (115, rwL (.iconst 0) 0), (116, rwL (.bipush 19) 19)]), (129, [(118, rw0 (.iload_n 1)), (119, rw0 (.iload_n 2)), (120, rw0 (.iload_n 3)), (121, rwC (.invokestatic 30) 5 "" [(0, sF_withShort)] [49, 151, 150]), (124, rw0 .ireturn), (125, rw0 (.iload_n 2)), (126, rwL (.bipush 12) 12), (128, rw0 .ishl)]), (139, [(129, rw0 (.iload_n 1)), (130, rwL (.bipush 7) 7), (132, rw0 .ishl), (133, rw0 .ior), (134, rwL (.bipush 55) 55), (136, rw0 .ior), (137, rw0 .ireturn), (138, rwL (.iconst 2) 2)]), (149, [(139, rwL (.iconst 3) 3), (140, rw0 (.iload_n 1)), (141, rw0 (.iload_n 2)), (142, rw0 (.iload_n 3)), (143, rwC (.invokestatic 30) 5 "" [(0, sF_withShort)] [49, 151, 150]), (146, rw0 .ireturn), (147, rw0 (.iload_n 3)), (148, rwL (.iconst 5) 5)]), (159, [(149, rw0 .ishr), (150, rwL (.bipush 25) 25), (152, rw0 .ishl), (153, rw0 (.iload_n 1)), (154, rwL (.bipush 20) 20), (156, rw0 .ishl), (157, rw0 .ior), (158, rw0 (.iload_n 2))]), (171, [(159, rwL (.bipush 15) 15), (161, rw0 .ishl), (162, rw0 .ior), (163, rwL (.sipush 8192) 8192), (166, rw0 .ior), (167, rw0 (.iload_n 3)), (168, rwL (.bipush 31) 31), (170, rw0 .iand)]), (181, [(171, rwL (.bipush 7) 7), (173, rw0 .ishl), (174, rw0 .ior), (175, rwL (.bipush 35) 35), (177, rw0 .ior), (178, rw0 .ireturn), (179, rwL (.iconst 0) 0), (180, rw0 (.iload_n 1))]), (191, [(181, rw0 (.iload_n 2)), (182, rw0 (.iload_n 3)), (183, rwC (.invokestatic 33) 4 "" [(0, sF_branch)] [49, 154, 153]), (186, rw0 .ireturn), (187, rwL (.iconst 1) 1), (188, rw0 (.iload_n 1)), (189, rw0 (.iload_n 2)), (190, rw0 (.iload_n 3))]), (203, [(191, rwC (.invokestatic 33) 4 "" [(0, sF_branch)] [49, 154, 153]), (194, rw0 .ireturn), (195, rwL (.iconst 4) 4), (196, rw0 (.iload_n 1)), (197, rw0 (.iload_n 2)), (198, rw0 (.iload_n 3)), (199, rwC (.invokestatic 33) 4 "" [(0, sF_branch)] [49, 154, 153]), (202, rw0 .ireturn)]), (214, [(203, rw0 (.iload_n 1)), (204, rw0 (.iload_n 2)), (205, rwC (.invokestatic 37) 2 "" [(0, sF_jump)] [49, 157, 156]), (208, rw0 .ireturn), (209, rwL (.iconst 0) 0), (210, rwL (.bipush 103) 103), (212, rw0 (.iload_n 1)), (213, rw0 (.iload_n 2))]), (224, [(214, rw0 (.iload_n 3)), (215, rwC (.invokestatic 30) 5 "" [(0, sF_withShort)] [49, 151, 150]), (218, rw0 .ireturn), (219, rw0 (.iload_n 2)), (220, rwL (.iconst 5) 5), (221, rw0 .ishr), (222, rwL (.iconst 1) 1), (223, rw0 .iand)]), (235, [(224, rwL (.bipush 12) 12), (226, rw0 .ishl), (227, rw0 (.iload_n 1)), (228, rwL (.bipush 7) 7), (230, rw0 .ishl), (231, rw0 .ior), (232, rw0 (.iload_n 2)), (233, rwL (.bipush 31) 31)]), (244, [(235, rw0 .iand), (236, rwL (.iconst 2) 2), (237, rw0 .ishl), (238, rw0 .ior), (239, rwL (.iconst 1) 1), (240, rw0 .ior), (241, rw0 .ireturn), (242, rwP (.ldc 41) 32768 [159])]), (253, [(244, rw0 (.iload_n 1)), (245, rwL (.bipush 7) 7), (247, rw0 .ishl), (248, rw0 .ior), (249, rw0 (.iload_n 2)), (250, rwL (.iconst 2) 2), (251, rw0 .ishl), (252, rw0 .ior)]), (258, [(253, rwL (.iconst 2) 2), (254, rw0 .ior), (255, rw0 .ireturn), (256, rwL (.iconst (-1)) (-1)), (257, rw0 .ireturn)])]
set_option maxRecDepth 100000 in
theorem cwF_pack : am_cw sF_pack ∈ am_gw := am_mem (i := 146) rfl rfl
set_option maxRecDepth 100000 in
theorem gdF_pack : am_Good sF_pack cdF_pack := by decide +kernel
abbrev sK_init : am_Sg := (yX0_init, cX0_init, 2, none, { frames := 2, cells := 1, slots := 256, locals := 48 })
def cdK_init : am_Cd := [(15, [(0, rw0 (.aload_n 0)), (1, rwC (.invokespecial 3) 0 "" [] [143, 64, 65]), (4, rw0 (.aload_n 0)), (5, rwL (.iconst 2) 2), (6, rwL (.bipush 31) 31), (8, rwL (.bipush 31) 31), (10, rwL (.bipush 29) 29), (12, rwC (.invokestatic 9) 4 "" [(0, sF_pack)] [49, 145, 144])]), (32, [(15, rwF (.putfield 15) 1 0 "FencedCode$Checker" [0] [161, 0]), (18, rw0 (.aload_n 0)), (19, rwL (.iconst 3) 3), (20, rwL (.bipush 31) 31), (22, rwL (.bipush 31) 31), (24, rwL (.bipush 28) 28), (26, rwC (.invokestatic 9) 4 "" [(0, sF_pack)] [49, 145, 144]), (29, rwF (.putfield 21) 2 0 "FencedCode$Checker" [0] [162, 0])]), (47, [(32, rw0 (.aload_n 0)), (33, rwL (.sipush 256) 256), (36, (.newarray .int, 256, 256, "", [], [], [], [105])), (38, rwF (.putfield 24) 3 2 "FencedCode$Checker" [0] [163, 0]), (41, rw0 (.aload_n 0)), (42, rw0 (.aload_n 1)), (43, rwF (.putfield 28) 0 2 "FencedCode$Checker" [0] [160, 0]), (46, rw0 .return_)])]
set_option maxRecDepth 100000 in
theorem cwK_init : am_cw sK_init ∈ am_gw := am_mem (i := 142) rfl rfl
set_option maxRecDepth 100000 in
theorem gdK_init : am_Good sK_init cdK_init := by decide +kernel
abbrev sC_has : am_Sg := (yX1_has, cX1_has, 2, some .boolean, { frames := 0, cells := 0, slots := 0, locals := 0 })
def cdC_has : am_Cd := [(16, [(0, rw0 (.iload_n 1)), (1, rwN (.ifCond .lt 22) 23), (4, rw0 (.iload_n 1)), (5, rw0 (.aload_n 0)), (6, rwF (.getfield 15) 1 0 "FencedCode$Code" [1] [113, 0]), (9, rwN (.if_icmp .ge 14) 23), (12, rw0 (.iload_n 1)), (13, rwL (.sipush 256) 256)]), (25, [(16, rwN (.if_icmp .ge 7) 23), (19, rwL (.iconst 1) 1), (20, rwN (.goto 4) 24), (23, rwL (.iconst 0) 0), (24, rw0 .ireturn)])]
set_option maxRecDepth 100000 in
theorem cwC_has : am_cw sC_has ∈ am_gw := am_mem (i := 448) rfl rfl
set_option maxRecDepth 100000 in
theorem gdC_has : am_Good sC_has cdC_has := by decide +kernel
abbrev sF_isLong : am_Sg := (yX2_isLong, cX2_isLong, 1, some .boolean, { frames := 0, cells := 0, slots := 0, locals := 0 })
def cdF_isLong : am_Cd := [(12, [(0, rw0 (.iload_n 0)), (1, rwL (.iconst 3) 3), (2, rw0 .iand), (3, rwL (.iconst 3) 3), (4, rwN (.if_icmp .ne 7) 11), (7, rwL (.iconst 1) 1), (8, rwN (.goto 4) 12), (11, rwL (.iconst 0) 0)]), (13, [(12, rw0 .ireturn)])]
set_option maxRecDepth 100000 in
theorem cwF_isLong : am_cw sF_isLong ∈ am_gw := am_mem (i := 306) rfl rfl
set_option maxRecDepth 100000 in
theorem gdF_isLong : am_Good sF_isLong cdF_isLong := by decide +kernel
abbrev sC_fetch : am_Sg := (yX1_fetch, cX1_fetch, 3, some .int, { frames := 1, cells := 0, slots := 0, locals := 21 })
def cdC_fetch : am_Cd := [(12, [(0, rw0 (.aload_n 0)), (1, rw0 (.iload_n 1)), (2, rwC (.invokevirtual 23) 1 "" [(1, sC_has)] [46, 447, 445, 3, 0, 0]), (5, rwN (.ifCond .eq 13) 18), (8, rw0 (.aload_n 0)), (9, rw0 (.iload_n 1)), (10, rwL (.iconst 1) 1), (11, rw0 .iadd)]), (26, [(12, rwC (.invokevirtual 23) 1 "" [(1, sC_has)] [46, 447, 445, 3, 0, 0]), (15, rwN (.ifCond .ne 5) 20), (18, rwL (.iconst 0) 0), (19, rw0 .ireturn), (20, rw0 (.aload_n 0)), (21, rwF (.getfield 9) 0 2 "FencedCode$Code" [1] [112, 0]), (24, rw0 (.iload_n 1)), (25, rw0 .iaload)]), (37, [(26, rw0 (.aload_n 0)), (27, rwF (.getfield 9) 0 2 "FencedCode$Code" [1] [112, 0]), (30, rw0 (.iload_n 1)), (31, rwL (.iconst 1) 1), (32, rw0 .iadd), (33, rw0 .iaload), (34, rwL (.bipush 8) 8), (36, rw0 .ishl)]), (49, [(37, rw0 .ior), (38, rw0 (.istore_n 2)), (39, rw0 (.iload_n 2)), (40, rwC (.invokestatic 27) 1 "" [(0, sF_isLong)] [49, 305, 500]), (43, rwN (.ifCond .ne 5) 48), (46, rw0 (.iload_n 2)), (47, rw0 .ireturn), (48, rw0 (.aload_n 0))]), (61, [(49, rw0 (.iload_n 1)), (50, rwL (.iconst 2) 2), (51, rw0 .iadd), (52, rwC (.invokevirtual 23) 1 "" [(1, sC_has)] [46, 447, 445, 3, 0, 0]), (55, rwN (.ifCond .eq 13) 68), (58, rw0 (.aload_n 0)), (59, rw0 (.iload_n 1)), (60, rwL (.iconst 3) 3)]), (75, [(61, rw0 .iadd), (62, rwC (.invokevirtual 23) 1 "" [(1, sC_has)] [46, 447, 445, 3, 0, 0]), (65, rwN (.ifCond .ne 5) 70), (68, rwL (.iconst 0) 0), (69, rw0 .ireturn), (70, rw0 (.iload_n 2)), (71, rw0 (.aload_n 0)), (72, rwF (.getfield 9) 0 2 "FencedCode$Code" [1] [112, 0])]), (84, [(75, rw0 (.iload_n 1)), (76, rwL (.iconst 2) 2), (77, rw0 .iadd), (78, rw0 .iaload), (79, rwL (.bipush 16) 16), (81, rw0 .ishl), (82, rw0 .ior), (83, rw0 (.aload_n 0))]), (95, [(84, rwF (.getfield 9) 0 2 "FencedCode$Code" [1] [112, 0]), (87, rw0 (.iload_n 1)), (88, rwL (.iconst 3) 3), (89, rw0 .iadd), (90, rw0 .iaload), (91, rwL (.bipush 24) 24), (93, rw0 .ishl), (94, rw0 .ior)]), (96, [(95, rw0 .ireturn)])]
set_option maxRecDepth 100000 in
theorem cwC_fetch : am_cw sC_fetch ∈ am_gw := am_mem (i := 499) rfl rfl
set_option maxRecDepth 100000 in
theorem gdC_fetch : am_Good sC_fetch cdC_fetch := by decide +kernel
abbrev sF_sizeOf : am_Sg := (yX2_sizeOf, cX2_sizeOf, 1, some .int, { frames := 1, cells := 0, slots := 0, locals := 20 })
def cdF_sizeOf : am_Cd := [(13, [(0, rw0 (.iload_n 0)), (1, rwC (.invokestatic 42) 1 "" [(0, sF_isLong)] [49, 305, 304]), (4, rwN (.ifCond .eq 7) 11), (7, rwL (.iconst 4) 4), (8, rwN (.goto 4) 12), (11, rwL (.iconst 2) 2), (12, rw0 .ireturn)])]
set_option maxRecDepth 100000 in
theorem cwF_sizeOf : am_cw sF_sizeOf ∈ am_gw := am_mem (i := 440) rfl rfl
set_option maxRecDepth 100000 in
theorem gdF_sizeOf : am_Good sF_sizeOf cdF_sizeOf := by decide +kernel
abbrev sF_lowRegister : am_Sg := (yX2_lowRegister, cX2_lowRegister, 1, some .int, { frames := 0, cells := 0, slots := 0, locals := 0 })
def cdF_lowRegister : am_Cd := [(8, [(0, rw0 (.iload_n 0)), (1, rwL (.bipush 7) 7), (3, rw0 .iushr), (4, rwL (.bipush 31) 31), (6, rw0 .iand), (7, rw0 .ireturn)])]
set_option maxRecDepth 100000 in
theorem cwF_lowRegister : am_cw sF_lowRegister ∈ am_gw := am_mem (i := 312) rfl rfl
set_option maxRecDepth 100000 in
theorem gdF_lowRegister : am_Good sF_lowRegister cdF_lowRegister := by decide +kernel
abbrev sF_shortNumber : am_Sg := (yX2_shortNumber, cX2_shortNumber, 2, some .int, { frames := 0, cells := 0, slots := 0, locals := 0 })
def cdF_shortNumber : am_Cd := [(11, [(0, rw0 (.iload_n 0)), (1, rwL (.iconst 2) 2), (2, rw0 .iushr), (3, rwL (.bipush 31) 31), (5, rw0 .iand), (6, rw0 (.istore_n 1)), (7, rw0 (.iload_n 0)), (8, rwL (.sipush 4096) 4096)]), (24, [(11, rw0 .iand), (12, rwN (.ifCond .ne 7) 19), (15, rw0 (.iload_n 1)), (16, rwN (.goto 7) 23), (19, rw0 (.iload_n 1)), (20, rwL (.bipush 32) 32), (22, rw0 .isub), (23, rw0 .ireturn)])]
set_option maxRecDepth 100000 in
theorem cwF_shortNumber : am_cw sF_shortNumber ∈ am_gw := am_mem (i := 316) rfl rfl
set_option maxRecDepth 100000 in
theorem gdF_shortNumber : am_Good sF_shortNumber cdF_shortNumber := by decide +kernel
abbrev sF_shortRegister : am_Sg := (yX2_shortRegister, cX2_shortRegister, 1, some .int, { frames := 0, cells := 0, slots := 0, locals := 0 })
def cdF_shortRegister : am_Cd := [(7, [(0, rw0 (.iload_n 0)), (1, rwL (.iconst 2) 2), (2, rw0 .iushr), (3, rwL (.bipush 31) 31), (5, rw0 .iand), (6, rw0 .ireturn)])]
set_option maxRecDepth 100000 in
theorem cwF_shortRegister : am_cw sF_shortRegister ∈ am_gw := am_mem (i := 321) rfl rfl
set_option maxRecDepth 100000 in
theorem gdF_shortRegister : am_Good sF_shortRegister cdF_shortRegister := by decide +kernel
abbrev sF_shortKindOf : am_Sg := (yX2_shortKindOf, cX2_shortKindOf, 3, some .int, { frames := 1, cells := 0, slots := 0, locals := 21 })
def cdF_shortKindOf : am_Cd := [(14, [(0, rw0 (.iload_n 0)), (1, rwC (.invokestatic 55) 1 "" [(0, sF_lowRegister)] [49, 311, 310]), (4, rwN (.ifCond .ne 7) 11), (7, rwL (.iconst 1) 1), (8, rwN (.goto 4) 12), (11, rwL (.iconst 0) 0), (12, rw0 (.istore_n 1)), (13, rw0 (.iload_n 0))]), (29, [(14, rwP (.ldc 58) 57347 [313]), (16, rw0 .iand), (17, rwL (.iconst 1) 1), (18, rwN (.if_icmp .ne 26) 44), (21, rw0 (.iload_n 1)), (22, rw0 (.iload_n 0)), (23, rwC (.invokestatic 59) 1 "" [(0, sF_shortNumber)] [49, 315, 314]), (26, rwN (.ifCond .ne 7) 33)]), (44, [(29, rwL (.iconst 1) 1), (30, rwN (.goto 4) 34), (33, rwL (.iconst 0) 0), (34, rwN (.if_icmp .ne 8) 42), (37, rwL (.bipush 13) 13), (39, rwN (.goto 4) 43), (42, rwL (.iconst (-1)) (-1)), (43, rw0 .ireturn)]), (58, [(44, rw0 (.iload_n 0)), (45, rwP (.ldc 62) 61443 [317]), (47, rw0 .iand), (48, rwP (.ldc 63) 32770 [318]), (50, rwN (.if_icmp .ne 7) 57), (53, rwL (.iconst 1) 1), (54, rwN (.goto 4) 58), (57, rwL (.iconst 0) 0)]), (74, [(58, rw0 (.istore_n 2)), (59, rw0 (.iload_n 2)), (60, rwN (.ifCond .eq 19) 79), (63, rw0 (.iload_n 1)), (64, rwN (.ifCond .ne 15) 79), (67, rw0 (.iload_n 0)), (68, rwC (.invokestatic 64) 1 "" [(0, sF_shortRegister)] [49, 320, 319]), (71, rwN (.ifCond .eq 8) 79)]), (81, [(74, rwL (.bipush 14) 14), (76, rwN (.goto 4) 80), (79, rwL (.iconst (-1)) (-1)), (80, rw0 .ireturn)])]
set_option maxRecDepth 100000 in
theorem cwF_shortKindOf : am_cw sF_shortKindOf ∈ am_gw := am_mem (i := 309) rfl rfl
set_option maxRecDepth 100000 in
theorem gdF_shortKindOf : am_Good sF_shortKindOf cdF_shortKindOf := by decide +kernel
abbrev sF_arithmeticKindOf : am_Sg := (yX2_arithmeticKindOf, cX2_arithmeticKindOf, 2, some .int, { frames := 0, cells := 0, slots := 0, locals := 0 })
def cdF_arithmeticKindOf : am_Cd := [(15, [(0, rw0 (.iload_n 0)), (1, rwL (.bipush 32) 32), (3, rwN (.if_icmp .ne 13) 16), (6, rw0 (.iload_n 1)), (7, rwN (.ifCond .ne 7) 14), (10, rwL (.iconst 1) 1), (11, rwN (.goto 4) 15), (14, rwL (.iconst (-1)) (-1))]), (57, [(15, rw0 .ireturn), (16, rw0 (.iload_n 0)), (17, rwN (.ifCond .eq 5) 22), (20, rwL (.iconst (-1)) (-1)), (21, rw0 .ireturn), (22, rw0 (.iload_n 1)), (23, rwS (.lookupswitch 39 #[(0, 33), (6, 37), (7, 35)]) 62 [(0, 56), (6, 60), (7, 58)]), (56, rwL (.iconst 0) 0)]), (64, [(57, rw0 .ireturn), (58, rwL (.iconst 2) 2), (59, rw0 .ireturn), (60, rwL (.iconst 3) 3), (61, rw0 .ireturn), (62, rwL (.iconst (-1)) (-1)), (63, rw0 .ireturn)])]
set_option maxRecDepth 100000 in
theorem cwF_arithmeticKindOf : am_cw sF_arithmeticKindOf ∈ am_gw := am_mem (i := 324) rfl rfl
set_option maxRecDepth 100000 in
theorem gdF_arithmeticKindOf : am_Good sF_arithmeticKindOf cdF_arithmeticKindOf := by decide +kernel
abbrev sF_branchKindOf : am_Sg := (yX2_branchKindOf, cX2_branchKindOf, 1, some .int, { frames := 0, cells := 0, slots := 0, locals := 0 })
def cdF_branchKindOf : am_Cd := [(45, [(0, rw0 (.iload_n 0)), (1, rwS (.tableswitch 44 0 4 #[35, 38, 44, 44, 41]) 45 [(0, 36), (1, 39), (2, 45), (3, 45), (4, 42)]), (36, rwL (.bipush 8) 8), (38, rw0 .ireturn), (39, rwL (.bipush 9) 9), (41, rw0 .ireturn), (42, rwL (.bipush 10) 10), (44, rw0 .ireturn)]), (47, [(45, rwL (.iconst (-1)) (-1)), (46, rw0 .ireturn)])]
set_option maxRecDepth 100000 in
theorem cwF_branchKindOf : am_cw sF_branchKindOf ∈ am_gw := am_mem (i := 327) rfl rfl
set_option maxRecDepth 100000 in
theorem gdF_branchKindOf : am_Good sF_branchKindOf cdF_branchKindOf := by decide +kernel
abbrev sF_kindOf : am_Sg := (yX2_kindOf, cX2_kindOf, 2, some .int, { frames := 2, cells := 0, slots := 0, locals := 43 })
def cdF_kindOf : am_Cd := [(15, [(0, rw0 (.iload_n 0)), (1, rwC (.invokestatic 42) 1 "" [(0, sF_isLong)] [49, 305, 304]), (4, rwN (.ifCond .ne 8) 12), (7, rw0 (.iload_n 0)), (8, rwC (.invokestatic 45) 1 "" [(0, sF_shortKindOf)] [49, 308, 307]), (11, rw0 .ireturn), (12, rw0 (.iload_n 0)), (13, rwL (.bipush 12) 12)]), (100, [(15, rw0 .iushr), (16, rwL (.bipush 7) 7), (18, rw0 .iand), (19, rw0 (.istore_n 1)), (20, rw0 (.iload_n 0)), (21, rwL (.bipush 127) 127), (23, rw0 .iand), (24, rwS (.lookupswitch 140 #[(3, 97), (19, 85), (35, 109), (51, 76), (55, 95), (99, 121), (103, 129), (111, 126)]) 164 [(3, 121), (19, 109), (35, 133), (51, 100), (55, 119), (99, 145), (103, 153), (111, 150)])]), (113, [(100, rw0 (.iload_n 0)), (101, rwL (.bipush 25) 25), (103, rw0 .iushr), (104, rw0 (.iload_n 1)), (105, rwC (.invokestatic 49) 2 "" [(0, sF_arithmeticKindOf)] [49, 323, 322]), (108, rw0 .ireturn), (109, rw0 (.iload_n 1)), (110, rwN (.ifCond .ne 7) 117)]), (123, [(113, rwL (.iconst 4) 4), (114, rwN (.goto 4) 118), (117, rwL (.iconst (-1)) (-1)), (118, rw0 .ireturn), (119, rwL (.iconst 5) 5), (120, rw0 .ireturn), (121, rw0 (.iload_n 1)), (122, rwL (.iconst 2) 2)]), (138, [(123, rwN (.if_icmp .ne 8) 131), (126, rwL (.bipush 6) 6), (128, rwN (.goto 4) 132), (131, rwL (.iconst (-1)) (-1)), (132, rw0 .ireturn), (133, rw0 (.iload_n 1)), (134, rwL (.iconst 2) 2), (135, rwN (.if_icmp .ne 8) 143)]), (152, [(138, rwL (.bipush 7) 7), (140, rwN (.goto 4) 144), (143, rwL (.iconst (-1)) (-1)), (144, rw0 .ireturn), (145, rw0 (.iload_n 1)), (146, rwC (.invokestatic 52) 1 "" [(0, sF_branchKindOf)] [49, 326, 325]), (149, rw0 .ireturn), (150, rwL (.bipush 11) 11)]), (165, [(152, rw0 .ireturn), (153, rw0 (.iload_n 1)), (154, rwN (.ifCond .ne 8) 162), (157, rwL (.bipush 12) 12), (159, rwN (.goto 4) 163), (162, rwL (.iconst (-1)) (-1)), (163, rw0 .ireturn), (164, rwL (.iconst (-1)) (-1))]), (166, [(165, rw0 .ireturn)])]
set_option maxRecDepth 100000 in
theorem cwF_kindOf : am_cw sF_kindOf ∈ am_gw := am_mem (i := 303) rfl rfl
set_option maxRecDepth 100000 in
theorem gdF_kindOf : am_Good sF_kindOf cdF_kindOf := by decide +kernel
abbrev sK_firstBroken : am_Sg := (yX0_firstBroken, cX0_firstBroken, 4, some .int, { frames := 3, cells := 0, slots := 0, locals := 64 })
def cdK_firstBroken : am_Cd := [(14, [(0, rwL (.bipush 48) 48), (2, rw0 (.istore_n 1)), (3, rwL (.bipush 48) 48), (5, rw0 (.istore_n 2)), (6, rw0 (.iload_n 2)), (7, rw0 (.aload_n 0)), (8, rwF (.getfield 28) 0 2 "FencedCode$Checker" [0] [160, 0]), (11, rwF (.getfield 32) 1 0 "FencedCode$Code" [1] [114, 0])]), (30, [(14, rwN (.if_icmp .ge 77) 91), (17, rw0 (.iload_n 2)), (18, rwL (.sipush 256) 256), (21, rwN (.if_icmp .ge 70) 91), (24, rw0 (.iload_n 2)), (25, rw0 (.iload_n 1)), (26, rwN (.if_icmp .ne 14) 40), (29, rw0 (.aload_n 0))]), (46, [(30, rwF (.getfield 28) 0 2 "FencedCode$Checker" [0] [160, 0]), (33, rw0 (.iload_n 2)), (34, rwC (.invokevirtual 44) 1 "" [(1, sC_fetch)] [46, 497, 496, 498, 0, 0]), (37, rwN (.goto 4) 41), (40, rwL (.iconst 0) 0), (41, rw0 (.istore_n 3)), (42, rw0 (.aload_n 0)), (43, rwF (.getfield 24) 3 2 "FencedCode$Checker" [0] [163, 0])]), (56, [(46, rw0 (.iload_n 2)), (47, rw0 (.iload_n 3)), (48, rw0 .iastore), (49, rw0 (.iload_n 2)), (50, rw0 (.iload_n 1)), (51, rwN (.if_icmp .ne 34) 85), (54, rw0 (.iload_n 2)), (55, rw0 (.iload_n 3))]), (70, [(56, rwC (.invokestatic 48) 1 "" [(0, sF_sizeOf)] [49, 439, 501]), (59, rw0 .iadd), (60, rw0 (.istore_n 1)), (61, rw0 (.iload_n 3)), (62, rwC (.invokestatic 51) 1 "" [(0, sF_kindOf)] [49, 302, 502]), (65, rwL (.iconst (-1)) (-1)), (66, rwN (.if_icmp .eq 17) 83), (69, rw0 (.iload_n 2))]), (84, [(70, rwL (.bipush 16) 16), (72, rw0 .irem), (73, rw0 (.iload_n 3)), (74, rwC (.invokestatic 48) 1 "" [(0, sF_sizeOf)] [49, 439, 501]), (77, rw0 .iadd), (78, rwL (.bipush 16) 16), (80, rwN (.if_icmp .le 5) 85), (83, rw0 (.iload_n 2))]), (93, [(84, rw0 .ireturn), (85, rwL (.iinc 2 2) 2), (88, rwN (.goto (-82)) 6), (91, rwL (.iconst (-1)) (-1)), (92, rw0 .ireturn)])]
set_option maxRecDepth 100000 in
theorem cwK_firstBroken : am_cw sK_firstBroken ∈ am_gw := am_mem (i := 495) rfl rfl
set_option maxRecDepth 100000 in
theorem gdK_firstBroken : am_Good sK_firstBroken cdK_firstBroken := by decide +kernel
abbrev sK_begunAt : am_Sg := (yX0_begunAt, cX0_begunAt, 3, some .int, { frames := 0, cells := 0, slots := 0, locals := 0 })
def cdK_begunAt : am_Cd := [(17, [(0, rw0 (.iload_n 1)), (1, rwL (.bipush 48) 48), (3, rwN (.if_icmp .lt 31) 34), (6, rw0 (.iload_n 1)), (7, rw0 (.aload_n 0)), (8, rwF (.getfield 28) 0 2 "FencedCode$Checker" [0] [160, 0]), (11, rwF (.getfield 32) 1 0 "FencedCode$Code" [1] [114, 0]), (14, rwN (.if_icmp .ge 20) 34)]), (31, [(17, rw0 (.iload_n 1)), (18, rwL (.sipush 256) 256), (21, rwN (.if_icmp .ge 13) 34), (24, rw0 (.iload_n 1)), (25, rwL (.iconst 2) 2), (26, rw0 .irem), (27, rwN (.ifCond .ne 7) 34), (30, rwL (.iconst 1) 1)]), (45, [(31, rwN (.goto 4) 35), (34, rwL (.iconst 0) 0), (35, rw0 (.istore_n 2)), (36, rw0 (.iload_n 2)), (37, rwN (.ifCond .eq 12) 49), (40, rw0 (.aload_n 0)), (41, rwF (.getfield 24) 3 2 "FencedCode$Checker" [0] [163, 0]), (44, rw0 (.iload_n 1))]), (51, [(45, rw0 .iaload), (46, rwN (.goto 4) 50), (49, rwL (.iconst 0) 0), (50, rw0 .ireturn)])]
set_option maxRecDepth 100000 in
theorem cwK_begunAt : am_cw sK_begunAt ∈ am_gw := am_mem (i := 510) rfl rfl
set_option maxRecDepth 100000 in
theorem gdK_begunAt : am_Good sK_begunAt cdK_begunAt := by decide +kernel
abbrev sF_highRegister : am_Sg := (yX2_highRegister, cX2_highRegister, 1, some .int, { frames := 0, cells := 0, slots := 0, locals := 0 })
def cdF_highRegister : am_Cd := [(8, [(0, rw0 (.iload_n 0)), (1, rwL (.bipush 20) 20), (3, rw0 .iushr), (4, rwL (.bipush 31) 31), (6, rw0 .iand), (7, rw0 .ireturn)])]
set_option maxRecDepth 100000 in
theorem cwF_highRegister : am_cw sF_highRegister ∈ am_gw := am_mem (i := 520) rfl rfl
set_option maxRecDepth 100000 in
theorem gdF_highRegister : am_Good sF_highRegister cdF_highRegister := by decide +kernel
abbrev sF_middleRegister : am_Sg := (yX2_middleRegister, cX2_middleRegister, 1, some .int, { frames := 0, cells := 0, slots := 0, locals := 0 })
def cdF_middleRegister : am_Cd := [(8, [(0, rw0 (.iload_n 0)), (1, rwL (.bipush 15) 15), (3, rw0 .iushr), (4, rwL (.bipush 31) 31), (6, rw0 .iand), (7, rw0 .ireturn)])]
set_option maxRecDepth 100000 in
theorem cwF_middleRegister : am_cw sF_middleRegister ∈ am_gw := am_mem (i := 523) rfl rfl
set_option maxRecDepth 100000 in
theorem gdF_middleRegister : am_Good sF_middleRegister cdF_middleRegister := by decide +kernel
abbrev sF_firstOf : am_Sg := (yX2_firstOf, cX2_firstOf, 2, some .int, { frames := 1, cells := 0, slots := 0, locals := 20 })
def cdF_firstOf : am_Cd := [(42, [(0, rw0 (.iload_n 0)), (1, rwS (.tableswitch 41 7 10 #[31, 36, 36, 36]) 42 [(7, 32), (8, 37), (9, 37), (10, 37)]), (32, rw0 (.iload_n 1)), (33, rwC (.invokestatic 67) 1 "" [(0, sF_highRegister)] [49, 519, 518]), (36, rw0 .ireturn), (37, rw0 (.iload_n 1)), (38, rwC (.invokestatic 70) 1 "" [(0, sF_middleRegister)] [49, 522, 521]), (41, rw0 .ireturn)]), (47, [(42, rw0 (.iload_n 1)), (43, rwC (.invokestatic 55) 1 "" [(0, sF_lowRegister)] [49, 311, 310]), (46, rw0 .ireturn)])]
set_option maxRecDepth 100000 in
theorem cwF_firstOf : am_cw sF_firstOf ∈ am_gw := am_mem (i := 517) rfl rfl
set_option maxRecDepth 100000 in
theorem gdF_firstOf : am_Good sF_firstOf cdF_firstOf := by decide +kernel
abbrev sF_jumpOffset : am_Sg := (yX2_jumpOffset, cX2_jumpOffset, 1, some .int, { frames := 0, cells := 0, slots := 0, locals := 0 })
def cdF_jumpOffset : am_Cd := [(11, [(0, rw0 (.iload_n 0)), (1, rwL (.bipush 31) 31), (3, rw0 .ishr), (4, rwL (.bipush 20) 20), (6, rw0 .ishl), (7, rw0 (.iload_n 0)), (8, rwL (.bipush 12) 12), (10, rw0 .iushr)]), (23, [(11, rwL (.sipush 255) 255), (14, rw0 .iand), (15, rwL (.bipush 12) 12), (17, rw0 .ishl), (18, rw0 .ior), (19, rw0 (.iload_n 0)), (20, rwL (.bipush 20) 20), (22, rw0 .iushr)]), (33, [(23, rwL (.iconst 1) 1), (24, rw0 .iand), (25, rwL (.bipush 11) 11), (27, rw0 .ishl), (28, rw0 .ior), (29, rw0 (.iload_n 0)), (30, rwL (.bipush 21) 21), (32, rw0 .iushr)]), (41, [(33, rwL (.sipush 1023) 1023), (36, rw0 .iand), (37, rwL (.iconst 1) 1), (38, rw0 .ishl), (39, rw0 .ior), (40, rw0 .ireturn)])]
set_option maxRecDepth 100000 in
theorem cwF_jumpOffset : am_cw sF_jumpOffset ∈ am_gw := am_mem (i := 529) rfl rfl
set_option maxRecDepth 100000 in
theorem gdF_jumpOffset : am_Good sF_jumpOffset cdF_jumpOffset := by decide +kernel
abbrev sF_secondOf : am_Sg := (yX2_secondOf, cX2_secondOf, 2, some .int, { frames := 1, cells := 0, slots := 0, locals := 21 })
def cdF_secondOf : am_Cd := [(65, [(0, rw0 (.iload_n 0)), (1, rwS (.tableswitch 80 5 14 #[55, 80, 80, 60, 60, 60, 65, 80, 70, 75]) 81 [(5, 56), (6, 81), (7, 81), (8, 61), (9, 61), (10, 61), (11, 66), (12, 81), (13, 71), (14, 76)]), (56, rw0 (.iload_n 1)), (57, rwL (.bipush 12) 12), (59, rw0 .iushr), (60, rw0 .ireturn), (61, rw0 (.iload_n 1)), (62, rwC (.invokestatic 67) 1 "" [(0, sF_highRegister)] [49, 519, 518])]), (77, [(65, rw0 .ireturn), (66, rw0 (.iload_n 1)), (67, rwC (.invokestatic 73) 1 "" [(0, sF_jumpOffset)] [49, 528, 527]), (70, rw0 .ireturn), (71, rw0 (.iload_n 1)), (72, rwC (.invokestatic 59) 1 "" [(0, sF_shortNumber)] [49, 315, 314]), (75, rw0 .ireturn), (76, rw0 (.iload_n 1))]), (86, [(77, rwC (.invokestatic 64) 1 "" [(0, sF_shortRegister)] [49, 320, 319]), (80, rw0 .ireturn), (81, rw0 (.iload_n 1)), (82, rwC (.invokestatic 70) 1 "" [(0, sF_middleRegister)] [49, 522, 521]), (85, rw0 .ireturn)])]
set_option maxRecDepth 100000 in
theorem cwF_secondOf : am_cw sF_secondOf ∈ am_gw := am_mem (i := 526) rfl rfl
set_option maxRecDepth 100000 in
theorem gdF_secondOf : am_Good sF_secondOf cdF_secondOf := by decide +kernel
abbrev sF_branchOffset : am_Sg := (yX2_branchOffset, cX2_branchOffset, 1, some .int, { frames := 0, cells := 0, slots := 0, locals := 0 })
def cdF_branchOffset : am_Cd := [(11, [(0, rw0 (.iload_n 0)), (1, rwL (.bipush 31) 31), (3, rw0 .ishr), (4, rwL (.bipush 12) 12), (6, rw0 .ishl), (7, rw0 (.iload_n 0)), (8, rwL (.bipush 7) 7), (10, rw0 .iushr)]), (21, [(11, rwL (.iconst 1) 1), (12, rw0 .iand), (13, rwL (.bipush 11) 11), (15, rw0 .ishl), (16, rw0 .ior), (17, rw0 (.iload_n 0)), (18, rwL (.bipush 25) 25), (20, rw0 .iushr)]), (31, [(21, rwL (.bipush 63) 63), (23, rw0 .iand), (24, rwL (.iconst 5) 5), (25, rw0 .ishl), (26, rw0 .ior), (27, rw0 (.iload_n 0)), (28, rwL (.bipush 8) 8), (30, rw0 .iushr)]), (38, [(31, rwL (.bipush 15) 15), (33, rw0 .iand), (34, rwL (.iconst 1) 1), (35, rw0 .ishl), (36, rw0 .ior), (37, rw0 .ireturn)])]
set_option maxRecDepth 100000 in
theorem cwF_branchOffset : am_cw sF_branchOffset ∈ am_gw := am_mem (i := 535) rfl rfl
set_option maxRecDepth 100000 in
theorem gdF_branchOffset : am_Good sF_branchOffset cdF_branchOffset := by decide +kernel
abbrev sF_thirdOf : am_Sg := (yX2_thirdOf, cX2_thirdOf, 2, some .int, { frames := 1, cells := 0, slots := 0, locals := 20 })
def cdF_thirdOf : am_Cd := [(77, [(0, rw0 (.iload_n 0)), (1, rwS (.tableswitch 94 0 12 #[67, 67, 67, 67, 72, 94, 72, 77, 89, 89, 89, 94, 72]) 95 [(0, 68), (1, 68), (2, 68), (3, 68), (4, 73), (5, 95), (6, 73), (7, 78), (8, 90), (9, 90), (10, 90), (11, 95), (12, 73)]), (68, rw0 (.iload_n 1)), (69, rwC (.invokestatic 67) 1 "" [(0, sF_highRegister)] [49, 519, 518]), (72, rw0 .ireturn), (73, rw0 (.iload_n 1)), (74, rwL (.bipush 20) 20), (76, rw0 .ishr)]), (88, [(77, rw0 .ireturn), (78, rw0 (.iload_n 1)), (79, rwL (.bipush 25) 25), (81, rw0 .ishr), (82, rwL (.iconst 5) 5), (83, rw0 .ishl), (84, rw0 (.iload_n 1)), (85, rwC (.invokestatic 55) 1 "" [(0, sF_lowRegister)] [49, 311, 310])]), (97, [(88, rw0 .ior), (89, rw0 .ireturn), (90, rw0 (.iload_n 1)), (91, rwC (.invokestatic 76) 1 "" [(0, sF_branchOffset)] [49, 534, 533]), (94, rw0 .ireturn), (95, rwL (.iconst 0) 0), (96, rw0 .ireturn)])]
set_option maxRecDepth 100000 in
theorem cwF_thirdOf : am_cw sF_thirdOf ∈ am_gw := am_mem (i := 532) rfl rfl
set_option maxRecDepth 100000 in
theorem gdF_thirdOf : am_Good sF_thirdOf cdF_thirdOf := by decide +kernel
abbrev sK_before : am_Sg := (yX0_before, cX0_before, 3, some .int, { frames := 1, cells := 0, slots := 0, locals := 22 })
def cdK_before : am_Cd := [(11, [(0, rw0 (.iload_n 1)), (1, rwL (.bipush 16) 16), (3, rw0 .irem), (4, rw0 (.iload_n 2)), (5, rwN (.if_icmp .lt 13) 18), (8, rw0 (.aload_n 0)), (9, rw0 (.iload_n 1)), (10, rw0 (.iload_n 2))]), (20, [(11, rw0 .isub), (12, rwC (.invokevirtual 54) 1 "" [(0, sK_begunAt)] [48, 509, 507, 7, 0, 0]), (15, rwN (.goto 4) 19), (18, rwL (.iconst 0) 0), (19, rw0 .ireturn)])]
set_option maxRecDepth 100000 in
theorem cwK_before : am_cw sK_before ∈ am_gw := am_mem (i := 543) rfl rfl
set_option maxRecDepth 100000 in
theorem gdK_before : am_Good sK_before cdK_before := by decide +kernel
abbrev sK_isDataFenced : am_Sg := (yX0_isDataFenced, cX0_isDataFenced, 2, some .boolean, { frames := 2, cells := 0, slots := 0, locals := 44 })
def cdK_isDataFenced : am_Cd := [(15, [(0, rw0 (.aload_n 0)), (1, rw0 (.iload_n 1)), (2, rwL (.bipush 8) 8), (4, rwC (.invokevirtual 78) 2 "" [(0, sK_before)] [48, 542, 540, 10, 0, 0]), (7, rw0 (.aload_n 0)), (8, rwF (.getfield 15) 1 0 "FencedCode$Checker" [0] [161, 0]), (11, rwN (.if_icmp .ne 20) 31), (14, rw0 (.aload_n 0))]), (31, [(15, rw0 (.iload_n 1)), (16, rwL (.iconst 4) 4), (17, rwC (.invokevirtual 78) 2 "" [(0, sK_before)] [48, 542, 540, 10, 0, 0]), (20, rw0 (.aload_n 0)), (21, rwF (.getfield 21) 2 0 "FencedCode$Checker" [0] [162, 0]), (24, rwN (.if_icmp .ne 7) 31), (27, rwL (.iconst 1) 1), (28, rwN (.goto 4) 32)]), (33, [(31, rwL (.iconst 0) 0), (32, rw0 .ireturn)])]
set_option maxRecDepth 100000 in
theorem cwK_isDataFenced : am_cw sK_isDataFenced ∈ am_gw := am_mem (i := 539) rfl rfl
set_option maxRecDepth 100000 in
theorem gdK_isDataFenced : am_Good sK_isDataFenced cdK_isDataFenced := by decide +kernel
abbrev sK_mayLeadTo : am_Sg := (yX0_mayLeadTo, cX0_mayLeadTo, 4, some .boolean, { frames := 3, cells := 0, slots := 0, locals := 64 })
def cdK_mayLeadTo : am_Cd := [(16, [(0, rw0 (.iload_n 1)), (1, rwN (.ifCond .eq 15) 16), (4, rw0 (.iload_n 1)), (5, rwL (.bipush 16) 16), (7, rwN (.if_icmp .eq 9) 16), (10, rw0 (.iload_n 1)), (11, rwL (.bipush 32) 32), (13, rwN (.if_icmp .ne 5) 18)]), (28, [(16, rwL (.iconst 1) 1), (17, rw0 .ireturn), (18, rw0 (.aload_n 0)), (19, rw0 (.iload_n 1)), (20, rwC (.invokevirtual 54) 1 "" [(0, sK_begunAt)] [48, 509, 507, 7, 0, 0]), (23, rw0 (.istore_n 2)), (24, rw0 (.iload_n 2)), (25, rwC (.invokestatic 51) 1 "" [(0, sF_kindOf)] [49, 302, 502])]), (42, [(28, rw0 (.istore_n 3)), (29, rw0 (.iload_n 2)), (30, rwN (.ifCond .eq 33) 63), (33, rw0 (.iload_n 2)), (34, rw0 (.aload_n 0)), (35, rwF (.getfield 21) 2 0 "FencedCode$Checker" [0] [162, 0]), (38, rwN (.if_icmp .eq 25) 63), (41, rw0 (.iload_n 3))]), (59, [(42, rwL (.bipush 6) 6), (44, rwN (.if_icmp .eq 19) 63), (47, rw0 (.iload_n 3)), (48, rwL (.bipush 7) 7), (50, rwN (.if_icmp .eq 13) 63), (53, rw0 (.iload_n 3)), (54, rwL (.bipush 12) 12), (56, rwN (.if_icmp .eq 7) 63)]), (65, [(59, rwL (.iconst 1) 1), (60, rwN (.goto 4) 64), (63, rwL (.iconst 0) 0), (64, rw0 .ireturn)])]
set_option maxRecDepth 100000 in
theorem cwK_mayLeadTo : am_cw sK_mayLeadTo ∈ am_gw := am_mem (i := 547) rfl rfl
set_option maxRecDepth 100000 in
theorem gdK_mayLeadTo : am_Good sK_mayLeadTo cdK_mayLeadTo := by decide +kernel
abbrev sK_isCodeMask : am_Sg := (yX0_isCodeMask, cX0_isCodeMask, 1, some .boolean, { frames := 3, cells := 0, slots := 0, locals := 64 })
def cdK_isCodeMask : am_Cd := [(15, [(0, rw0 (.iload_n 0)), (1, rwC (.invokestatic 51) 1 "" [(0, sF_kindOf)] [49, 302, 502]), (4, rwL (.iconst 2) 2), (5, rwN (.if_icmp .ne 27) 32), (8, rwL (.iconst 2) 2), (9, rw0 (.iload_n 0)), (10, rwC (.invokestatic 61) 2 "" [(0, sF_firstOf)] [49, 516, 515]), (13, rwL (.bipush 31) 31)]), (32, [(15, rwN (.if_icmp .ne 17) 32), (18, rwL (.iconst 2) 2), (19, rw0 (.iload_n 0)), (20, rwC (.invokestatic 68) 2 "" [(0, sF_thirdOf)] [49, 531, 530]), (23, rwL (.bipush 27) 27), (25, rwN (.if_icmp .ne 7) 32), (28, rwL (.iconst 1) 1), (29, rwN (.goto 4) 33)]), (34, [(32, rwL (.iconst 0) 0), (33, rw0 .ireturn)])]
set_option maxRecDepth 100000 in
theorem cwK_isCodeMask : am_cw sK_isCodeMask ∈ am_gw := am_mem (i := 550) rfl rfl
set_option maxRecDepth 100000 in
theorem gdK_isCodeMask : am_Good sK_isCodeMask cdK_isCodeMask := by decide +kernel
abbrev sK_mayChangeReserved : am_Sg := (yX0_mayChangeReserved, cX0_mayChangeReserved, 4, some .boolean, { frames := 4, cells := 0, slots := 0, locals := 84 })
def cdK_mayChangeReserved : am_Cd := [(13, [(0, rw0 (.iload_n 1)), (1, rwL (.iconst 4) 4), (2, rwN (.if_icmp .ne 9) 11), (5, rw0 (.iload_n 2)), (6, rwL (.bipush 31) 31), (8, rwN (.if_icmp .eq 26) 34), (11, rw0 (.iload_n 3)), (12, rw0 (.aload_n 0))]), (31, [(13, rwF (.getfield 15) 1 0 "FencedCode$Checker" [0] [161, 0]), (16, rwN (.if_icmp .eq 18) 34), (19, rw0 (.iload_n 3)), (20, rw0 (.aload_n 0)), (21, rwF (.getfield 21) 2 0 "FencedCode$Checker" [0] [162, 0]), (24, rwN (.if_icmp .eq 10) 34), (27, rw0 (.iload_n 3)), (28, rwC (.invokestatic 81) 1 "" [(0, sK_isCodeMask)] [48, 549, 548])]), (40, [(31, rwN (.ifCond .eq 7) 38), (34, rwL (.iconst 1) 1), (35, rwN (.goto 4) 39), (38, rwL (.iconst 0) 0), (39, rw0 .ireturn)])]
set_option maxRecDepth 100000 in
theorem cwK_mayChangeReserved : am_cw sK_mayChangeReserved ∈ am_gw := am_mem (i := 554) rfl rfl
set_option maxRecDepth 100000 in
theorem gdK_mayChangeReserved : am_Good sK_mayChangeReserved cdK_mayChangeReserved := by decide +kernel
abbrev sK_isSafe : am_Sg := (yX0_isSafe, cX0_isSafe, 7, some .boolean, { frames := 5, cells := 0, slots := 0, locals := 107 })
def cdK_isSafe : am_Cd := [(13, [(0, rw0 (.iload_n 2)), (1, rwC (.invokestatic 51) 1 "" [(0, sF_kindOf)] [49, 302, 502]), (4, rw0 (.istore_n 3)), (5, rw0 (.iload_n 3)), (6, rw0 (.iload_n 2)), (7, rwC (.invokestatic 61) 2 "" [(0, sF_firstOf)] [49, 516, 515]), (10, rw0 (.istore 4)), (12, rw0 (.iload_n 3))]), (27, [(13, rw0 (.iload_n 2)), (14, rwC (.invokestatic 65) 2 "" [(0, sF_secondOf)] [49, 525, 524]), (17, rw0 (.istore 5)), (19, rw0 (.iload_n 3)), (20, rw0 (.iload_n 2)), (21, rwC (.invokestatic 68) 2 "" [(0, sF_thirdOf)] [49, 531, 530]), (24, rw0 (.istore 6)), (26, rw0 (.iload_n 3))]), (84, [(27, rwS (.tableswitch 170 6 12 #[41, 74, 100, 100, 100, 109, 133]) 197 [(6, 68), (7, 101), (8, 127), (9, 127), (10, 127), (11, 136), (12, 160)]), (68, rw0 (.iload 4)), (70, rwL (.bipush 26) 26), (72, rwN (.if_icmp .gt 27) 99), (75, rw0 (.iload 5)), (77, rwL (.bipush 31) 31), (79, rwN (.if_icmp .ne 20) 99), (82, rw0 (.iload 6))]), (100, [(84, rwN (.ifCond .ne 15) 99), (87, rw0 (.aload_n 0)), (88, rw0 (.iload_n 1)), (89, rwC (.invokevirtual 71) 1 "" [(0, sK_isDataFenced)] [48, 538, 536, 9, 0, 0]), (92, rwN (.ifCond .eq 7) 99), (95, rwL (.iconst 1) 1), (96, rwN (.goto 4) 100), (99, rwL (.iconst 0) 0)]), (115, [(100, rw0 .ireturn), (101, rw0 (.iload 5)), (103, rwL (.bipush 31) 31), (105, rwN (.if_icmp .ne 20) 125), (108, rw0 (.iload 6)), (110, rwN (.ifCond .ne 15) 125), (113, rw0 (.aload_n 0)), (114, rw0 (.iload_n 1))]), (129, [(115, rwC (.invokevirtual 71) 1 "" [(0, sK_isDataFenced)] [48, 538, 536, 9, 0, 0]), (118, rwN (.ifCond .eq 7) 125), (121, rwL (.iconst 1) 1), (122, rwN (.goto 4) 126), (125, rwL (.iconst 0) 0), (126, rw0 .ireturn), (127, rw0 (.aload_n 0)), (128, rw0 (.iload_n 1))]), (144, [(129, rw0 (.iload 6)), (131, rw0 .iadd), (132, rwC (.invokevirtual 75) 1 "" [(0, sK_mayLeadTo)] [48, 546, 544, 11, 0, 0]), (135, rw0 .ireturn), (136, rw0 (.iload 4)), (138, rwL (.bipush 26) 26), (140, rwN (.if_icmp .gt 18) 158), (143, rw0 (.aload_n 0))]), (159, [(144, rw0 (.iload_n 1)), (145, rw0 (.iload 5)), (147, rw0 .iadd), (148, rwC (.invokevirtual 75) 1 "" [(0, sK_mayLeadTo)] [48, 546, 544, 11, 0, 0]), (151, rwN (.ifCond .eq 7) 158), (154, rwL (.iconst 1) 1), (155, rwN (.goto 4) 159), (158, rwL (.iconst 0) 0)]), (176, [(159, rw0 .ireturn), (160, rw0 (.iload 4)), (162, rwL (.bipush 26) 26), (164, rwN (.if_icmp .gt 31) 195), (167, rw0 (.iload 5)), (169, rwL (.bipush 31) 31), (171, rwN (.if_icmp .ne 24) 195), (174, rw0 (.iload 6))]), (192, [(176, rwN (.ifCond .ne 19) 195), (179, rw0 (.aload_n 0)), (180, rw0 (.iload_n 1)), (181, rwL (.iconst 4) 4), (182, rwC (.invokevirtual 78) 2 "" [(0, sK_before)] [48, 542, 540, 10, 0, 0]), (185, rwC (.invokestatic 81) 1 "" [(0, sK_isCodeMask)] [48, 549, 548]), (188, rwN (.ifCond .eq 7) 195), (191, rwL (.iconst 1) 1)]), (206, [(192, rwN (.goto 4) 196), (195, rwL (.iconst 0) 0), (196, rw0 .ireturn), (197, rw0 (.iload 4)), (199, rwL (.bipush 26) 26), (201, rwN (.if_icmp .le 14) 215), (204, rw0 (.aload_n 0)), (205, rw0 (.iload_n 3))]), (221, [(206, rw0 (.iload 4)), (208, rw0 (.iload_n 2)), (209, rwC (.invokevirtual 84) 3 "" [(0, sK_mayChangeReserved)] [48, 553, 551, 12, 0, 0]), (212, rwN (.ifCond .eq 7) 219), (215, rwL (.iconst 1) 1), (216, rwN (.goto 4) 220), (219, rwL (.iconst 0) 0), (220, rw0 .ireturn)])]
set_option maxRecDepth 100000 in
theorem cwK_isSafe : am_cw sK_isSafe ∈ am_gw := am_mem (i := 514) rfl rfl
set_option maxRecDepth 100000 in
theorem gdK_isSafe : am_Good sK_isSafe cdK_isSafe := by decide +kernel
abbrev sK_firstUnsafe : am_Sg := (yX0_firstUnsafe, cX0_firstUnsafe, 2, some .int, { frames := 6, cells := 0, slots := 0, locals := 133 })
def cdK_firstUnsafe : am_Cd := [(15, [(0, rwL (.bipush 48) 48), (2, rw0 (.istore_n 1)), (3, rw0 (.iload_n 1)), (4, rw0 (.aload_n 0)), (5, rwF (.getfield 28) 0 2 "FencedCode$Checker" [0] [160, 0]), (8, rwF (.getfield 32) 1 0 "FencedCode$Code" [1] [114, 0]), (11, rwN (.if_icmp .ge 32) 43), (14, rw0 (.aload_n 0))]), (29, [(15, rw0 (.iload_n 1)), (16, rwC (.invokevirtual 54) 1 "" [(0, sK_begunAt)] [48, 509, 507, 7, 0, 0]), (19, rwN (.ifCond .eq 18) 37), (22, rw0 (.aload_n 0)), (23, rw0 (.iload_n 1)), (24, rw0 (.aload_n 0)), (25, rw0 (.iload_n 1)), (26, rwC (.invokevirtual 54) 1 "" [(0, sK_begunAt)] [48, 509, 507, 7, 0, 0])]), (45, [(29, rwC (.invokevirtual 57) 2 "" [(0, sK_isSafe)] [48, 513, 511, 8, 0, 0]), (32, rwN (.ifCond .ne 5) 37), (35, rw0 (.iload_n 1)), (36, rw0 .ireturn), (37, rwL (.iinc 1 2) 2), (40, rwN (.goto (-37)) 3), (43, rwL (.iconst (-1)) (-1)), (44, rw0 .ireturn)])]
set_option maxRecDepth 100000 in
theorem cwK_firstUnsafe : am_cw sK_firstUnsafe ∈ am_gw := am_mem (i := 506) rfl rfl
set_option maxRecDepth 100000 in
theorem gdK_firstUnsafe : am_Good sK_firstUnsafe cdK_firstUnsafe := by decide +kernel
abbrev sK_firstWrong : am_Sg := (yX0_firstWrong, cX0_firstWrong, 2, some .int, { frames := 7, cells := 0, slots := 0, locals := 154 })
def cdK_firstWrong : am_Cd := [(19, [(0, rw0 (.aload_n 0)), (1, rwF (.getfield 28) 0 2 "FencedCode$Checker" [0] [160, 0]), (4, rwF (.getfield 32) 1 0 "FencedCode$Code" [1] [114, 0]), (7, rwL (.bipush 48) 48), (9, rwN (.if_icmp .le 16) 25), (12, rw0 (.aload_n 0)), (13, rwF (.getfield 28) 0 2 "FencedCode$Checker" [0] [160, 0]), (16, rwF (.getfield 32) 1 0 "FencedCode$Code" [1] [114, 0])]), (33, [(19, rwL (.bipush 16) 16), (21, rw0 .irem), (22, rwN (.ifCond .eq 6) 28), (25, rwL (.bipush 48) 48), (27, rw0 .ireturn), (28, rw0 (.aload_n 0)), (29, rwC (.invokevirtual 37) 0 "" [(0, sK_firstBroken)] [48, 494, 492, 5, 0, 0]), (32, rw0 (.istore_n 1))]), (47, [(33, rw0 (.iload_n 1)), (34, rwL (.iconst (-1)) (-1)), (35, rwN (.if_icmp .eq 7) 42), (38, rw0 (.iload_n 1)), (39, rwN (.goto 7) 46), (42, rw0 (.aload_n 0)), (43, rwC (.invokevirtual 41) 0 "" [(0, sK_firstUnsafe)] [48, 505, 503, 6, 0, 0]), (46, rw0 .ireturn)])]
set_option maxRecDepth 100000 in
theorem cwK_firstWrong : am_cw sK_firstWrong ∈ am_gw := am_mem (i := 491) rfl rfl
set_option maxRecDepth 100000 in
theorem gdK_firstWrong : am_Good sK_firstWrong cdK_firstWrong := by decide +kernel
abbrev sC_init : am_Sg := (yX1_init, cX1_init, 1, none, { frames := 1, cells := 1, slots := 256, locals := 20 })
def cdC_init : am_Cd := [(15, [(0, rw0 (.aload_n 0)), (1, rwC (.invokespecial 3) 0 "" [] [111, 64, 65]), (4, rw0 (.aload_n 0)), (5, rwL (.sipush 256) 256), (8, (.newarray .int, 256, 256, "", [], [], [], [105])), (10, rwF (.putfield 9) 0 2 "FencedCode$Code" [1] [112, 0]), (13, rw0 (.aload_n 0)), (14, rwL (.iconst 0) 0)]), (19, [(15, rwF (.putfield 15) 1 0 "FencedCode$Code" [1] [113, 0]), (18, rw0 .return_)])]
set_option maxRecDepth 100000 in
theorem cwC_init : am_cw sC_init ∈ am_gw := am_mem (i := 110) rfl rfl
set_option maxRecDepth 100000 in
theorem gdC_init : am_Good sC_init cdC_init := by decide +kernel
abbrev sX_within : am_Sg := (yX10_within, cX10_within, 3, some .boolean, { frames := 0, cells := 0, slots := 0, locals := 0 })
def cdX_within : am_Cd := [(14, [(0, rw0 (.iload_n 0)), (1, rw0 (.iload_n 1)), (2, rwN (.if_icmp .lt 12) 14), (5, rw0 (.iload_n 0)), (6, rw0 (.iload_n 2)), (7, rwN (.if_icmp .gt 7) 14), (10, rwL (.iconst 1) 1), (11, rwN (.goto 4) 15)]), (16, [(14, rwL (.iconst 0) 0), (15, rw0 .ireturn)])]
set_option maxRecDepth 100000 in
theorem cwX_within : am_cw sX_within ∈ am_gw := am_mem (i := 286) rfl rfl
set_option maxRecDepth 100000 in
theorem gdX_within : am_Good sX_within cdX_within := by decide +kernel
abbrev sC_resize : am_Sg := (yX1_resize, cX1_resize, 3, some .boolean, { frames := 1, cells := 0, slots := 0, locals := 22 })
def cdC_resize : am_Cd := [(14, [(0, rw0 (.iload_n 1)), (1, rwL (.iconst 0) 0), (2, rwL (.sipush 256) 256), (5, rwC (.invokestatic 19) 3 "FencedCode" [(0, sX_within)] [44, 285, 423]), (8, rwN (.ifCond .ne 5) 13), (11, rwL (.iconst 0) 0), (12, rw0 .ireturn), (13, rw0 (.iload_n 1))]), (28, [(14, rw0 (.istore_n 2)), (15, rw0 (.iload_n 2)), (16, rwL (.sipush 256) 256), (19, rwN (.if_icmp .ge 16) 35), (22, rw0 (.aload_n 0)), (23, rwF (.getfield 9) 0 2 "FencedCode$Code" [1] [112, 0]), (26, rw0 (.iload_n 2)), (27, rwL (.iconst 0) 0)]), (42, [(28, rw0 .iastore), (29, rwL (.iinc 2 1) 1), (32, rwN (.goto (-17)) 15), (35, rw0 (.aload_n 0)), (36, rw0 (.iload_n 1)), (37, rwF (.putfield 15) 1 0 "FencedCode$Code" [1] [113, 0]), (40, rwL (.iconst 1) 1), (41, rw0 .ireturn)])]
set_option maxRecDepth 100000 in
theorem cwC_resize : am_cw sC_resize ∈ am_gw := am_mem (i := 422) rfl rfl
set_option maxRecDepth 100000 in
theorem gdC_resize : am_Good sC_resize cdC_resize := by decide +kernel
abbrev sC_put : am_Sg := (yX1_put, cX1_put, 3, some .boolean, { frames := 1, cells := 0, slots := 0, locals := 22 })
def cdC_put : am_Cd := [(16, [(0, rw0 (.aload_n 0)), (1, rw0 (.iload_n 1)), (2, rwC (.invokevirtual 23) 1 "" [(1, sC_has)] [46, 447, 445, 3, 0, 0]), (5, rwN (.ifCond .eq 14) 19), (8, rw0 (.iload_n 2)), (9, rwL (.iconst 0) 0), (10, rwL (.sipush 255) 255), (13, rwC (.invokestatic 19) 3 "FencedCode" [(0, sX_within)] [44, 285, 423])]), (28, [(16, rwN (.ifCond .ne 5) 21), (19, rwL (.iconst 0) 0), (20, rw0 .ireturn), (21, rw0 (.aload_n 0)), (22, rwF (.getfield 9) 0 2 "FencedCode$Code" [1] [112, 0]), (25, rw0 (.iload_n 1)), (26, rw0 (.iload_n 2)), (27, rw0 .iastore)]), (30, [(28, rwL (.iconst 1) 1), (29, rw0 .ireturn)])]
set_option maxRecDepth 100000 in
theorem cwC_put : am_cw sC_put ∈ am_gw := am_mem (i := 444) rfl rfl
set_option maxRecDepth 100000 in
theorem gdC_put : am_Good sC_put cdC_put := by decide +kernel
abbrev sC_byteAt : am_Sg := (yX1_byteAt, cX1_byteAt, 2, some .int, { frames := 1, cells := 0, slots := 0, locals := 21 })
def cdC_byteAt : am_Cd := [(14, [(0, rw0 (.aload_n 0)), (1, rw0 (.iload_n 1)), (2, rwC (.invokevirtual 23) 1 "" [(1, sC_has)] [46, 447, 445, 3, 0, 0]), (5, rwN (.ifCond .eq 12) 17), (8, rw0 (.aload_n 0)), (9, rwF (.getfield 9) 0 2 "FencedCode$Code" [1] [112, 0]), (12, rw0 (.iload_n 1)), (13, rw0 .iaload)]), (19, [(14, rwN (.goto 4) 18), (17, rwL (.iconst (-1)) (-1)), (18, rw0 .ireturn)])]
set_option maxRecDepth 100000 in
theorem cwC_byteAt : am_cw sC_byteAt ∈ am_gw := am_mem (i := 483) rfl rfl
set_option maxRecDepth 100000 in
theorem gdC_byteAt : am_Good sC_byteAt cdC_byteAt := by decide +kernel
abbrev sF_isShort : am_Sg := (yX2_isShort, cX2_isShort, 1, some .boolean, { frames := 1, cells := 0, slots := 0, locals := 22 })
def cdF_isShort : am_Cd := [(11, [(0, rw0 (.iload_n 0)), (1, rwL (.sipush (-2048)) (-2048)), (4, rwL (.sipush 2047) 2047), (7, rwC (.invokestatic 9) 3 "FencedCode" [(0, sX_within)] [44, 285, 284]), (10, rw0 .ireturn)])]
set_option maxRecDepth 100000 in
theorem cwF_isShort : am_cw sF_isShort ∈ am_gw := am_mem (i := 291) rfl rfl
set_option maxRecDepth 100000 in
theorem gdF_isShort : am_Good sF_isShort cdF_isShort := by decide +kernel
abbrev sF_plainFits : am_Sg := (yX2_plainFits, cX2_plainFits, 5, some .boolean, { frames := 2, cells := 0, slots := 0, locals := 42 })
def cdF_plainFits : am_Cd := [(87, [(0, rw0 (.iload_n 0)), (1, rwS (.tableswitch 244 0 14 #[75, 75, 75, 75, 111, 144, 111, 111, 244, 244, 244, 244, 244, 170, 218]) 245 [(0, 76), (1, 76), (2, 76), (3, 76), (4, 112), (5, 145), (6, 112), (7, 112), (8, 245), (9, 245), (10, 245), (11, 245), (12, 245), (13, 171), (14, 219)]), (76, rw0 (.iload_n 1)), (77, rwL (.iconst 0) 0), (78, rw0 (.iload 4)), (80, rwC (.invokestatic 9) 3 "FencedCode" [(0, sX_within)] [44, 285, 284]), (83, rwN (.ifCond .eq 27) 110), (86, rw0 (.iload_n 2))]), (103, [(87, rwL (.iconst 0) 0), (88, rw0 (.iload 4)), (90, rwC (.invokestatic 9) 3 "FencedCode" [(0, sX_within)] [44, 285, 284]), (93, rwN (.ifCond .eq 17) 110), (96, rw0 (.iload_n 3)), (97, rwL (.iconst 0) 0), (98, rw0 (.iload 4)), (100, rwC (.invokestatic 9) 3 "FencedCode" [(0, sX_within)] [44, 285, 284])]), (116, [(103, rwN (.ifCond .eq 7) 110), (106, rwL (.iconst 1) 1), (107, rwN (.goto 4) 111), (110, rwL (.iconst 0) 0), (111, rw0 .ireturn), (112, rw0 (.iload_n 1)), (113, rwL (.iconst 0) 0), (114, rw0 (.iload 4))]), (133, [(116, rwC (.invokestatic 9) 3 "FencedCode" [(0, sX_within)] [44, 285, 284]), (119, rwN (.ifCond .eq 24) 143), (122, rw0 (.iload_n 2)), (123, rwL (.iconst 0) 0), (124, rw0 (.iload 4)), (126, rwC (.invokestatic 9) 3 "FencedCode" [(0, sX_within)] [44, 285, 284]), (129, rwN (.ifCond .eq 14) 143), (132, rw0 (.iload_n 3))]), (147, [(133, rwC (.invokestatic 15) 1 "" [(0, sF_isShort)] [49, 290, 289]), (136, rwN (.ifCond .eq 7) 143), (139, rwL (.iconst 1) 1), (140, rwN (.goto 4) 144), (143, rwL (.iconst 0) 0), (144, rw0 .ireturn), (145, rw0 (.iload_n 1)), (146, rwL (.iconst 0) 0)]), (165, [(147, rw0 (.iload 4)), (149, rwC (.invokestatic 9) 3 "FencedCode" [(0, sX_within)] [44, 285, 284]), (152, rwN (.ifCond .eq 17) 169), (155, rw0 (.iload_n 2)), (156, rwL (.iconst 0) 0), (157, rwP (.ldc 25) 1048575 [295]), (159, rwC (.invokestatic 9) 3 "FencedCode" [(0, sX_within)] [44, 285, 284]), (162, rwN (.ifCond .eq 7) 169)]), (178, [(165, rwL (.iconst 1) 1), (166, rwN (.goto 4) 170), (169, rwL (.iconst 0) 0), (170, rw0 .ireturn), (171, rw0 (.iload_n 1)), (172, rwL (.iconst 0) 0), (173, rw0 (.iload 4)), (175, rwC (.invokestatic 9) 3 "FencedCode" [(0, sX_within)] [44, 285, 284])]), (196, [(178, rwN (.ifCond .eq 39) 217), (181, rw0 (.iload_n 2)), (182, rwL (.bipush (-32)) (-32)), (184, rwL (.bipush 31) 31), (186, rwC (.invokestatic 9) 3 "FencedCode" [(0, sX_within)] [44, 285, 284]), (189, rwN (.ifCond .eq 28) 217), (192, rw0 (.iload_n 1)), (193, rwN (.ifCond .ne 7) 200)]), (210, [(196, rwL (.iconst 1) 1), (197, rwN (.goto 4) 201), (200, rwL (.iconst 0) 0), (201, rw0 (.iload_n 2)), (202, rwN (.ifCond .ne 7) 209), (205, rwL (.iconst 1) 1), (206, rwN (.goto 4) 210), (209, rwL (.iconst 0) 0)]), (223, [(210, rwN (.if_icmp .ne 7) 217), (213, rwL (.iconst 1) 1), (214, rwN (.goto 4) 218), (217, rwL (.iconst 0) 0), (218, rw0 .ireturn), (219, rw0 (.iload_n 1)), (220, rwL (.iconst 1) 1), (221, rw0 (.iload 4))]), (240, [(223, rwC (.invokestatic 9) 3 "FencedCode" [(0, sX_within)] [44, 285, 284]), (226, rwN (.ifCond .eq 17) 243), (229, rw0 (.iload_n 2)), (230, rwL (.iconst 1) 1), (231, rw0 (.iload 4)), (233, rwC (.invokestatic 9) 3 "FencedCode" [(0, sX_within)] [44, 285, 284]), (236, rwN (.ifCond .eq 7) 243), (239, rwL (.iconst 1) 1)]), (247, [(240, rwN (.goto 4) 244), (243, rwL (.iconst 0) 0), (244, rw0 .ireturn), (245, rwL (.iconst 0) 0), (246, rw0 .ireturn)])]
set_option maxRecDepth 100000 in
theorem cwF_plainFits : am_cw sF_plainFits ∈ am_gw := am_mem (i := 294) rfl rfl
set_option maxRecDepth 100000 in
theorem gdF_plainFits : am_Good sF_plainFits cdF_plainFits := by decide +kernel
abbrev sF_encodable : am_Sg := (yX2_encodable, cX2_encodable, 4, some .boolean, { frames := 3, cells := 0, slots := 0, locals := 66 })
def cdF_encodable : am_Cd := [(47, [(0, rw0 (.iload_n 0)), (1, rwS (.tableswitch 146 8 12 #[35, 35, 35, 80, 113]) 147 [(8, 36), (9, 36), (10, 36), (11, 81), (12, 114)]), (36, rw0 (.iload_n 1)), (37, rwL (.iconst 0) 0), (38, rwL (.bipush 31) 31), (40, rwC (.invokestatic 9) 3 "FencedCode" [(0, sX_within)] [44, 285, 284]), (43, rwN (.ifCond .eq 36) 79), (46, rw0 (.iload_n 2))]), (66, [(47, rwL (.iconst 0) 0), (48, rwL (.bipush 31) 31), (50, rwC (.invokestatic 9) 3 "FencedCode" [(0, sX_within)] [44, 285, 284]), (53, rwN (.ifCond .eq 26) 79), (56, rw0 (.iload_n 3)), (57, rwL (.sipush (-4096)) (-4096)), (60, rwL (.sipush 4094) 4094), (63, rwC (.invokestatic 9) 3 "FencedCode" [(0, sX_within)] [44, 285, 284])]), (80, [(66, rwN (.ifCond .eq 13) 79), (69, rw0 (.iload_n 3)), (70, rwL (.iconst 1) 1), (71, rw0 .iand), (72, rwN (.ifCond .ne 7) 79), (75, rwL (.iconst 1) 1), (76, rwN (.goto 4) 80), (79, rwL (.iconst 0) 0)]), (94, [(80, rw0 .ireturn), (81, rw0 (.iload_n 1)), (82, rwL (.iconst 0) 0), (83, rwL (.bipush 31) 31), (85, rwC (.invokestatic 9) 3 "FencedCode" [(0, sX_within)] [44, 285, 284]), (88, rwN (.ifCond .eq 24) 112), (91, rw0 (.iload_n 2)), (92, rwP (.ldc 13) (-1048576) [287])]), (109, [(94, rwP (.ldc 14) 1048574 [288]), (96, rwC (.invokestatic 9) 3 "FencedCode" [(0, sX_within)] [44, 285, 284]), (99, rwN (.ifCond .eq 13) 112), (102, rw0 (.iload_n 2)), (103, rwL (.iconst 1) 1), (104, rw0 .iand), (105, rwN (.ifCond .ne 7) 112), (108, rwL (.iconst 1) 1)]), (124, [(109, rwN (.goto 4) 113), (112, rwL (.iconst 0) 0), (113, rw0 .ireturn), (114, rw0 (.iload_n 1)), (115, rwL (.iconst 0) 0), (116, rwL (.bipush 31) 31), (118, rwC (.invokestatic 9) 3 "FencedCode" [(0, sX_within)] [44, 285, 284]), (121, rwN (.ifCond .eq 24) 145)]), (141, [(124, rw0 (.iload_n 2)), (125, rwL (.iconst 0) 0), (126, rwL (.bipush 31) 31), (128, rwC (.invokestatic 9) 3 "FencedCode" [(0, sX_within)] [44, 285, 284]), (131, rwN (.ifCond .eq 14) 145), (134, rw0 (.iload_n 3)), (135, rwC (.invokestatic 15) 1 "" [(0, sF_isShort)] [49, 290, 289]), (138, rwN (.ifCond .eq 7) 145)]), (151, [(141, rwL (.iconst 1) 1), (142, rwN (.goto 4) 146), (145, rwL (.iconst 0) 0), (146, rw0 .ireturn), (147, rw0 (.iload_n 0)), (148, rw0 (.iload_n 1)), (149, rw0 (.iload_n 2)), (150, rw0 (.iload_n 3))]), (157, [(151, rwL (.bipush 31) 31), (153, rwC (.invokestatic 21) 5 "" [(0, sF_plainFits)] [49, 293, 292]), (156, rw0 .ireturn)])]
set_option maxRecDepth 100000 in
theorem cwF_encodable : am_cw sF_encodable ∈ am_gw := am_mem (i := 283) rfl rfl
set_option maxRecDepth 100000 in
theorem gdF_encodable : am_Good sF_encodable cdF_encodable := by decide +kernel
abbrev sI_init : am_Sg := (yX3_init, cX3_init, 1, none, { frames := 1, cells := 1, slots := 20, locals := 20 })
def cdI_init : am_Cd := [(14, [(0, rw0 (.aload_n 0)), (1, rwC (.invokespecial 3) 0 "" [] [178, 64, 65]), (4, rw0 (.aload_n 0)), (5, rwL (.bipush 20) 20), (7, (.newarray .int, 20, 20, "", [], [], [], [105])), (9, rwF (.putfield 9) 0 2 "FencedCode$Inputs" [2] [179, 0]), (12, rw0 (.aload_n 0)), (13, rwL (.iconst 0) 0)]), (18, [(14, rwF (.putfield 15) 1 0 "FencedCode$Inputs" [2] [180, 0]), (17, rw0 .return_)])]
set_option maxRecDepth 100000 in
theorem cwI_init : am_cw sI_init ∈ am_gw := am_mem (i := 177) rfl rfl
set_option maxRecDepth 100000 in
theorem gdI_init : am_Good sI_init cdI_init := by decide +kernel
abbrev sI_add : am_Sg := (yX3_add, cX3_add, 2, some .boolean, { frames := 0, cells := 0, slots := 0, locals := 0 })
def cdI_add : am_Cd := [(17, [(0, rw0 (.aload_n 0)), (1, rwF (.getfield 15) 1 0 "FencedCode$Inputs" [2] [180, 0]), (4, rwN (.ifCond .lt 12) 16), (7, rw0 (.aload_n 0)), (8, rwF (.getfield 15) 1 0 "FencedCode$Inputs" [2] [180, 0]), (11, rwL (.bipush 20) 20), (13, rwN (.if_icmp .lt 5) 18), (16, rwL (.iconst 0) 0)]), (29, [(17, rw0 .ireturn), (18, rw0 (.aload_n 0)), (19, rwF (.getfield 9) 0 2 "FencedCode$Inputs" [2] [179, 0]), (22, rw0 (.aload_n 0)), (23, rwF (.getfield 15) 1 0 "FencedCode$Inputs" [2] [180, 0]), (26, rw0 (.iload_n 1)), (27, rw0 .iastore), (28, rw0 (.aload_n 0))]), (40, [(29, rw0 .dup), (30, rwF (.getfield 15) 1 0 "FencedCode$Inputs" [2] [180, 0]), (33, rwL (.iconst 1) 1), (34, rw0 .iadd), (35, rwF (.putfield 15) 1 0 "FencedCode$Inputs" [2] [180, 0]), (38, rwL (.iconst 1) 1), (39, rw0 .ireturn)])]
set_option maxRecDepth 100000 in
theorem cwI_add : am_cw sI_add ∈ am_gw := am_mem (i := 562) rfl rfl
set_option maxRecDepth 100000 in
theorem gdI_add : am_Good sI_add cdI_add := by decide +kernel
abbrev sI_valueAt : am_Sg := (yX3_valueAt, cX3_valueAt, 2, some .int, { frames := 0, cells := 0, slots := 0, locals := 0 })
def cdI_valueAt : am_Cd := [(15, [(0, rw0 (.iload_n 1)), (1, rwN (.ifCond .lt 26) 27), (4, rw0 (.iload_n 1)), (5, rw0 (.aload_n 0)), (6, rwF (.getfield 15) 1 0 "FencedCode$Inputs" [2] [180, 0]), (9, rwN (.if_icmp .ge 18) 27), (12, rw0 (.iload_n 1)), (13, rwL (.bipush 20) 20)]), (29, [(15, rwN (.if_icmp .ge 12) 27), (18, rw0 (.aload_n 0)), (19, rwF (.getfield 9) 0 2 "FencedCode$Inputs" [2] [179, 0]), (22, rw0 (.iload_n 1)), (23, rw0 .iaload), (24, rwN (.goto 4) 28), (27, rwL (.iconst (-1)) (-1)), (28, rw0 .ireturn)])]
set_option maxRecDepth 100000 in
theorem cwI_valueAt : am_cw sI_valueAt ∈ am_gw := am_mem (i := 608) rfl rfl
set_option maxRecDepth 100000 in
theorem gdI_valueAt : am_Good sI_valueAt cdI_valueAt := by decide +kernel
abbrev sP_has : am_Sg := (yX6_has, cX6_has, 2, some .boolean, { frames := 0, cells := 0, slots := 0, locals := 0 })
def cdP_has : am_Cd := [(15, [(0, rw0 (.iload_n 0)), (1, rwN (.ifCond .lt 18) 19), (4, rw0 (.iload_n 0)), (5, rw0 (.iload_n 1)), (6, rwN (.if_icmp .ge 13) 19), (9, rw0 (.iload_n 0)), (10, rwL (.bipush 20) 20), (12, rwN (.if_icmp .ge 7) 19)]), (21, [(15, rwL (.iconst 1) 1), (16, rwN (.goto 4) 20), (19, rwL (.iconst 0) 0), (20, rw0 .ireturn)])]
set_option maxRecDepth 100000 in
theorem cwP_has : am_cw sP_has ∈ am_gw := am_mem (i := 349) rfl rfl
set_option maxRecDepth 100000 in
theorem gdP_has : am_Good sP_has cdP_has := by decide +kernel
abbrev sP_kindAt : am_Sg := (yX6_kindAt, cX6_kindAt, 2, some .int, { frames := 1, cells := 0, slots := 0, locals := 21 })
def cdP_kindAt : am_Cd := [(16, [(0, rw0 (.iload_n 1)), (1, rw0 (.aload_n 0)), (2, rwF (.getfield 30) 6 0 "FencedCode$Program" [4] [80, 0]), (5, rwC (.invokestatic 54) 2 "" [(0, sP_has)] [45, 348, 347]), (8, rwN (.ifCond .eq 12) 20), (11, rw0 (.aload_n 0)), (12, rwF (.getfield 9) 0 2 "FencedCode$Program" [4] [72, 0]), (15, rw0 (.iload_n 1))]), (22, [(16, rw0 .iaload), (17, rwN (.goto 4) 21), (20, rwL (.iconst (-1)) (-1)), (21, rw0 .ireturn)])]
set_option maxRecDepth 100000 in
theorem cwP_kindAt : am_cw sP_kindAt ∈ am_gw := am_mem (i := 369) rfl rfl
set_option maxRecDepth 100000 in
theorem gdP_kindAt : am_Good sP_kindAt cdP_kindAt := by decide +kernel
abbrev sP_secondAt : am_Sg := (yX6_secondAt, cX6_secondAt, 2, some .int, { frames := 1, cells := 0, slots := 0, locals := 21 })
def cdP_secondAt : am_Cd := [(16, [(0, rw0 (.iload_n 1)), (1, rw0 (.aload_n 0)), (2, rwF (.getfield 30) 6 0 "FencedCode$Program" [4] [80, 0]), (5, rwC (.invokestatic 54) 2 "" [(0, sP_has)] [45, 348, 347]), (8, rwN (.ifCond .eq 12) 20), (11, rw0 (.aload_n 0)), (12, rwF (.getfield 18) 2 2 "FencedCode$Program" [4] [74, 0]), (15, rw0 (.iload_n 1))]), (22, [(16, rw0 .iaload), (17, rwN (.goto 4) 21), (20, rwL (.iconst 0) 0), (21, rw0 .ireturn)])]
set_option maxRecDepth 100000 in
theorem cwP_secondAt : am_cw sP_secondAt ∈ am_gw := am_mem (i := 377) rfl rfl
set_option maxRecDepth 100000 in
theorem gdP_secondAt : am_Good sP_secondAt cdP_secondAt := by decide +kernel
abbrev sP_isAddressTaken : am_Sg := (yX6_isAddressTaken, cX6_isAddressTaken, 3, some .boolean, { frames := 2, cells := 0, slots := 0, locals := 42 })
def cdP_isAddressTaken : am_Cd := [(12, [(0, rwL (.iconst 0) 0), (1, rw0 (.istore_n 2)), (2, rw0 (.iload_n 2)), (3, rw0 (.aload_n 0)), (4, rwF (.getfield 30) 6 0 "FencedCode$Program" [4] [80, 0]), (7, rwN (.if_icmp .ge 30) 37), (10, rw0 (.aload_n 0)), (11, rw0 (.iload_n 2))]), (29, [(12, rwC (.invokevirtual 64) 1 "" [(4, sP_kindAt)] [45, 367, 366, 368, 0, 0]), (15, rwL (.bipush 16) 16), (17, rwN (.if_icmp .ne 14) 31), (20, rw0 (.aload_n 0)), (21, rw0 (.iload_n 2)), (22, rwC (.invokevirtual 71) 1 "" [(4, sP_secondAt)] [45, 375, 374, 376, 0, 0]), (25, rw0 (.iload_n 1)), (26, rwN (.if_icmp .ne 5) 31)]), (39, [(29, rwL (.iconst 1) 1), (30, rw0 .ireturn), (31, rwL (.iinc 2 1) 1), (34, rwN (.goto (-32)) 2), (37, rwL (.iconst 0) 0), (38, rw0 .ireturn)])]
set_option maxRecDepth 100000 in
theorem cwP_isAddressTaken : am_cw sP_isAddressTaken ∈ am_gw := am_mem (i := 390) rfl rfl
set_option maxRecDepth 100000 in
theorem gdP_isAddressTaken : am_Good sP_isAddressTaken cdP_isAddressTaken := by decide +kernel
abbrev sL_nextWith : am_Sg := (yX4_nextWith, cX4_nextWith, 3, some .int, { frames := 0, cells := 0, slots := 0, locals := 0 })
def cdL_nextWith : am_Cd := [(9, [(0, rw0 (.iload_n 1)), (1, rw0 (.iload_n 1)), (2, rwL (.bipush 16) 16), (4, rw0 .irem), (5, rw0 .isub), (6, rw0 (.iload_n 0)), (7, rw0 .iadd), (8, rw0 (.istore_n 2))]), (22, [(9, rw0 (.iload_n 2)), (10, rw0 (.iload_n 1)), (11, rwN (.if_icmp .lt 7) 18), (14, rw0 (.iload_n 2)), (15, rwN (.goto 7) 22), (18, rw0 (.iload_n 2)), (19, rwL (.bipush 16) 16), (21, rw0 .iadd)]), (23, [(22, rw0 .ireturn)])]
set_option maxRecDepth 100000 in
theorem cwL_nextWith : am_cw sL_nextWith ∈ am_gw := am_mem (i := 393) rfl rfl
set_option maxRecDepth 100000 in
theorem gdL_nextWith : am_Good sL_nextWith cdL_nextWith := by decide +kernel
abbrev sL_targetPlace : am_Sg := (yX4_targetPlace, cX4_targetPlace, 3, some .int, { frames := 3, cells := 0, slots := 0, locals := 64 })
def cdL_targetPlace : am_Cd := [(16, [(0, rw0 (.aload_n 0)), (1, rw0 (.iload_n 1)), (2, rwC (.invokevirtual 47) 1 "" [(4, sP_isAddressTaken)] [45, 388, 387, 389, 0, 0]), (5, rwN (.ifCond .eq 11) 16), (8, rwL (.iconst 0) 0), (9, rw0 (.iload_n 2)), (10, rwC (.invokestatic 51) 2 "" [(0, sL_nextWith)] [55, 392, 391]), (13, rwN (.goto 4) 17)]), (18, [(16, rw0 (.iload_n 2)), (17, rw0 .ireturn)])]
set_option maxRecDepth 100000 in
theorem cwL_targetPlace : am_cw sL_targetPlace ∈ am_gw := am_mem (i := 386) rfl rfl
set_option maxRecDepth 100000 in
theorem gdL_targetPlace : am_Good sL_targetPlace cdL_targetPlace := by decide +kernel
abbrev sL_bytesOf : am_Sg := (yX4_bytesOf, cX4_bytesOf, 1, some .int, { frames := 0, cells := 0, slots := 0, locals := 0 })
def cdL_bytesOf : am_Cd := [(60, [(0, rw0 (.iload_n 0)), (1, rwS (.tableswitch 59 6 14 #[51, 51, 59, 59, 59, 59, 54, 57, 57]) 60 [(6, 52), (7, 52), (8, 60), (9, 60), (10, 60), (11, 60), (12, 55), (13, 58), (14, 58)]), (52, rwL (.bipush 16) 16), (54, rw0 .ireturn), (55, rwL (.bipush 8) 8), (57, rw0 .ireturn), (58, rwL (.iconst 2) 2), (59, rw0 .ireturn)]), (62, [(60, rwL (.iconst 4) 4), (61, rw0 .ireturn)])]
set_option maxRecDepth 100000 in
theorem cwL_bytesOf : am_cw sL_bytesOf ∈ am_gw := am_mem (i := 400) rfl rfl
set_option maxRecDepth 100000 in
theorem gdL_bytesOf : am_Good sL_bytesOf cdL_bytesOf := by decide +kernel
abbrev sP_firstAt : am_Sg := (yX6_firstAt, cX6_firstAt, 2, some .int, { frames := 1, cells := 0, slots := 0, locals := 21 })
def cdP_firstAt : am_Cd := [(16, [(0, rw0 (.iload_n 1)), (1, rw0 (.aload_n 0)), (2, rwF (.getfield 30) 6 0 "FencedCode$Program" [4] [80, 0]), (5, rwC (.invokestatic 54) 2 "" [(0, sP_has)] [45, 348, 347]), (8, rwN (.ifCond .eq 12) 20), (11, rw0 (.aload_n 0)), (12, rwF (.getfield 15) 1 2 "FencedCode$Program" [4] [73, 0]), (15, rw0 (.iload_n 1))]), (22, [(16, rw0 .iaload), (17, rwN (.goto 4) 21), (20, rwL (.iconst 0) 0), (21, rw0 .ireturn)])]
set_option maxRecDepth 100000 in
theorem cwP_firstAt : am_cw sP_firstAt ∈ am_gw := am_mem (i := 404) rfl rfl
set_option maxRecDepth 100000 in
theorem gdP_firstAt : am_Good sP_firstAt cdP_firstAt := by decide +kernel
abbrev sL_endsBundle : am_Sg := (yX4_endsBundle, cX4_endsBundle, 2, some .boolean, { frames := 0, cells := 0, slots := 0, locals := 0 })
def cdL_endsBundle : am_Cd := [(15, [(0, rw0 (.iload_n 0)), (1, rwL (.bipush 15) 15), (3, rwN (.if_icmp .eq 19) 22), (6, rw0 (.iload_n 0)), (7, rwL (.bipush 11) 11), (9, rwN (.if_icmp .eq 9) 18), (12, rw0 (.iload_n 0)), (13, rwL (.bipush 12) 12)]), (28, [(15, rwN (.if_icmp .ne 11) 26), (18, rw0 (.iload_n 1)), (19, rwN (.ifCond .eq 7) 26), (22, rwL (.iconst 1) 1), (23, rwN (.goto 4) 27), (26, rwL (.iconst 0) 0), (27, rw0 .ireturn)])]
set_option maxRecDepth 100000 in
theorem cwL_endsBundle : am_cw sL_endsBundle ∈ am_gw := am_mem (i := 407) rfl rfl
set_option maxRecDepth 100000 in
theorem gdL_endsBundle : am_Good sL_endsBundle cdL_endsBundle := by decide +kernel
abbrev sL_linePlace : am_Sg := (yX4_linePlace, cX4_linePlace, 4, some .int, { frames := 2, cells := 0, slots := 0, locals := 42 })
def cdL_linePlace : am_Cd := [(14, [(0, rw0 (.aload_n 0)), (1, rw0 (.iload_n 1)), (2, rwC (.invokevirtual 37) 1 "" [(4, sP_kindAt)] [45, 367, 397, 368, 0, 0]), (5, rwC (.invokestatic 41) 1 "" [(0, sL_bytesOf)] [55, 399, 398]), (8, rw0 (.istore_n 3)), (9, rw0 (.aload_n 0)), (10, rw0 (.iload_n 1)), (11, rwC (.invokevirtual 37) 1 "" [(4, sP_kindAt)] [45, 367, 397, 368, 0, 0])]), (29, [(14, rw0 (.aload_n 0)), (15, rw0 (.iload_n 1)), (16, rwC (.invokevirtual 54) 1 "" [(4, sP_firstAt)] [45, 402, 401, 403, 0, 0]), (19, rwC (.invokestatic 57) 2 "" [(0, sL_endsBundle)] [55, 406, 405]), (22, rwN (.ifCond .eq 12) 34), (25, rwL (.bipush 16) 16), (27, rw0 (.iload_n 3)), (28, rw0 .isub)]), (40, [(29, rw0 (.iload_n 2)), (30, rwC (.invokestatic 51) 2 "" [(0, sL_nextWith)] [55, 392, 391]), (33, rw0 .ireturn), (34, rw0 (.iload_n 2)), (35, rwL (.bipush 16) 16), (37, rw0 .irem), (38, rw0 (.iload_n 3)), (39, rw0 .iadd)]), (55, [(40, rwL (.bipush 16) 16), (42, rwN (.if_icmp .le 11) 53), (45, rwL (.iconst 0) 0), (46, rw0 (.iload_n 2)), (47, rwC (.invokestatic 51) 2 "" [(0, sL_nextWith)] [55, 392, 391]), (50, rwN (.goto 4) 54), (53, rw0 (.iload_n 2)), (54, rw0 .ireturn)])]
set_option maxRecDepth 100000 in
theorem cwL_linePlace : am_cw sL_linePlace ∈ am_gw := am_mem (i := 396) rfl rfl
set_option maxRecDepth 100000 in
theorem gdL_linePlace : am_Good sL_linePlace cdL_linePlace := by decide +kernel
abbrev sL_place : am_Sg := (yX4_place, cX4_place, 4, some .int, { frames := 4, cells := 0, slots := 0, locals := 86 })
def cdL_place : am_Cd := [(14, [(0, rw0 (.aload_n 0)), (1, rwF (.getfield 9) 6 0 "FencedCode$Program" [4] [81, 0]), (4, rwL (.bipush 20) 20), (6, (.invokestatic 15, 0, 0, "", [], [], [], [381, 382, 56, 383])), (9, rw0 (.istore_n 1)), (10, rwL (.bipush 48) 48), (12, rw0 (.istore_n 2)), (13, rwL (.iconst 0) 0)]), (26, [(14, rw0 (.istore_n 3)), (15, rw0 (.iload_n 3)), (16, rw0 (.iload_n 1)), (17, rwN (.if_icmp .ge 48) 65), (20, rw0 (.aload_n 0)), (21, rw0 (.iload_n 3)), (22, rw0 (.iload_n 2)), (23, rwC (.invokestatic 21) 3 "" [(0, sL_targetPlace)] [55, 385, 384])]), (36, [(26, rw0 (.istore_n 2)), (27, rw0 (.aload_n 0)), (28, rwF (.getfield 27) 4 2 "FencedCode$Program" [4] [77, 0]), (31, rw0 (.iload_n 3)), (32, rw0 (.iload_n 2)), (33, rw0 .iastore), (34, rw0 (.aload_n 0)), (35, rw0 (.iload_n 3))]), (48, [(36, rw0 (.iload_n 2)), (37, rwC (.invokestatic 31) 3 "" [(0, sL_linePlace)] [55, 395, 394]), (40, rw0 (.istore_n 2)), (41, rw0 (.aload_n 0)), (42, rwF (.getfield 34) 5 2 "FencedCode$Program" [4] [79, 0]), (45, rw0 (.iload_n 3)), (46, rw0 (.iload_n 2)), (47, rw0 .iastore)]), (62, [(48, rw0 (.iload_n 2)), (49, rw0 (.aload_n 0)), (50, rw0 (.iload_n 3)), (51, rwC (.invokevirtual 37) 1 "" [(4, sP_kindAt)] [45, 367, 397, 368, 0, 0]), (54, rwC (.invokestatic 41) 1 "" [(0, sL_bytesOf)] [55, 399, 398]), (57, rw0 .iadd), (58, rw0 (.istore_n 2)), (59, rwL (.iinc 3 1) 1)]), (76, [(62, rwN (.goto (-47)) 15), (65, rw0 (.aload_n 0)), (66, rw0 (.iload_n 1)), (67, rw0 (.iload_n 2)), (68, rwC (.invokestatic 21) 3 "" [(0, sL_targetPlace)] [55, 385, 384]), (71, rw0 (.istore_n 2)), (72, rw0 (.aload_n 0)), (73, rwF (.getfield 27) 4 2 "FencedCode$Program" [4] [77, 0])]), (85, [(76, rw0 (.iload_n 1)), (77, rw0 (.iload_n 2)), (78, rw0 .iastore), (79, rw0 (.aload_n 0)), (80, rw0 (.iload_n 2)), (81, rw0 (.iload_n 2)), (82, rwL (.bipush 16) 16), (84, rw0 .irem)]), (97, [(85, rw0 .isub), (86, rwL (.bipush 16) 16), (88, rw0 .iadd), (89, rwF (.putfield 44) 7 0 "FencedCode$Program" [4] [87, 0]), (92, rw0 (.aload_n 0)), (93, rwF (.getfield 44) 7 0 "FencedCode$Program" [4] [87, 0]), (96, rw0 .ireturn)])]
set_option maxRecDepth 100000 in
theorem cwL_place : am_cw sL_place ∈ am_gw := am_mem (i := 380) rfl rfl
set_option maxRecDepth 100000 in
theorem gdL_place : am_Good sL_place cdL_place := by decide +kernel
abbrev sU_init : am_Sg := (yX8_init, cX8_init, 2, none, { frames := 1, cells := 3, slots := 88, locals := 20 })
def cdU_init : am_Cd := [(15, [(0, rw0 (.aload_n 0)), (1, rwC (.invokespecial 3) 0 "" [] [195, 64, 65]), (4, rw0 (.aload_n 0)), (5, rwL (.bipush 32) 32), (7, (.newarray .int, 32, 32, "", [], [], [], [105])), (9, rwF (.putfield 9) 1 2 "FencedCode$Runner" [3, 6] [198, 0]), (12, rw0 (.aload_n 0)), (13, rwL (.bipush 16) 16)]), (30, [(15, (.newarray .int, 16, 16, "", [], [], [], [105])), (17, rwF (.putfield 15) 2 2 "FencedCode$Runner" [3, 6] [199, 0]), (20, rw0 (.aload_n 0)), (21, rwL (.bipush 40) 40), (23, (.newarray .int, 40, 40, "", [], [], [], [105])), (25, rwF (.putfield 18) 3 2 "FencedCode$Runner" [3, 6] [200, 0]), (28, rw0 (.aload_n 0)), (29, rwL (.iconst 0) 0)]), (44, [(30, rwF (.putfield 21) 4 0 "FencedCode$Runner" [3, 6] [201, 0]), (33, rw0 (.aload_n 0)), (34, rwL (.iconst 0) 0), (35, rwF (.putfield 25) 5 0 "FencedCode$Runner" [3, 6] [202, 0]), (38, rw0 (.aload_n 0)), (39, rwL (.iconst 0) 0), (40, rwF (.putfield 28) 6 0 "FencedCode$Runner" [3, 6] [204, 0]), (43, rw0 (.aload_n 0))]), (54, [(44, rwL (.iconst 0) 0), (45, rwF (.putfield 31) 7 0 "FencedCode$Runner" [3, 6] [206, 0]), (48, rw0 (.aload_n 0)), (49, rw0 (.aload_n 1)), (50, rwF (.putfield 34) 0 2 "FencedCode$Runner" [3, 6] [197, 0]), (53, rw0 .return_)])]
set_option maxRecDepth 100000 in
theorem cwU_init : am_cw sU_init ∈ am_gw := am_mem (i := 194) rfl rfl
set_option maxRecDepth 100000 in
theorem gdU_init : am_Good sU_init cdU_init := by decide +kernel
abbrev sM_init : am_Sg := (yX5_init, cX5_init, 3, none, { frames := 2, cells := 3, slots := 88, locals := 41 })
def cdM_init : am_Cd := [(11, [(0, rw0 (.aload_n 0)), (1, rw0 (.aload_n 2)), (2, rwC (.invokespecial 3) 1 "" [(0, sU_init)] [51, 193, 192]), (5, rw0 (.aload_n 0)), (6, rw0 (.aload_n 1)), (7, rwF (.putfield 9) 8 2 "FencedCode$Machine" [3] [196, 0]), (10, rw0 .return_)])]
set_option maxRecDepth 100000 in
theorem cwM_init : am_cw sM_init ∈ am_gw := am_mem (i := 191) rfl rfl
set_option maxRecDepth 100000 in
theorem gdM_init : am_Good sM_init cdM_init := by decide +kernel
abbrev sU_set : am_Sg := (yX8_set, cX8_set, 3, none, { frames := 0, cells := 0, slots := 0, locals := 0 })
def cdU_set : am_Cd := [(15, [(0, rw0 (.iload_n 1)), (1, rwN (.ifCond .le 16) 17), (4, rw0 (.iload_n 1)), (5, rwL (.bipush 32) 32), (7, rwN (.if_icmp .ge 10) 17), (10, rw0 (.aload_n 0)), (11, rwF (.getfield 9) 1 2 "FencedCode$Runner" [3, 6] [198, 0]), (14, rw0 (.iload_n 1))]), (18, [(15, rw0 (.iload_n 2)), (16, rw0 .iastore), (17, rw0 .return_)])]
set_option maxRecDepth 100000 in
theorem cwU_set : am_cw sU_set ∈ am_gw := am_mem (i := 589) rfl rfl
set_option maxRecDepth 100000 in
theorem gdU_set : am_Good sU_set cdU_set := by decide +kernel
abbrev sM_begin : am_Sg := (yX5_begin, cX5_begin, 1, none, { frames := 1, cells := 0, slots := 0, locals := 22 })
def cdM_begin : am_Cd := [(18, [(0, rw0 (.aload_n 0)), (1, rwL (.bipush 27) 27), (3, rwL (.sipush 240) 240), (6, rwC (.invokevirtual 15) 2 "FencedCode$Machine" [(3, sU_set)] [51, 588, 584, 587, 585, 586]), (9, rw0 (.aload_n 0)), (10, rwL (.bipush 28) 28), (12, rwL (.sipush 4096) 4096), (15, rwC (.invokevirtual 15) 2 "FencedCode$Machine" [(3, sU_set)] [51, 588, 584, 587, 585, 586])]), (33, [(18, rw0 (.aload_n 0)), (19, rwL (.bipush 29) 29), (21, rwL (.bipush 60) 60), (23, rwC (.invokevirtual 15) 2 "FencedCode$Machine" [(3, sU_set)] [51, 588, 584, 587, 585, 586]), (26, rw0 (.aload_n 0)), (27, rwL (.bipush 48) 48), (29, rwF (.putfield 19) 7 0 "FencedCode$Machine" [3, 6] [209, 210]), (32, rw0 .return_)])]
set_option maxRecDepth 100000 in
theorem cwM_begin : am_cw sM_begin ∈ am_gw := am_mem (i := 583) rfl rfl
set_option maxRecDepth 100000 in
theorem gdM_begin : am_Good sM_begin cdM_begin := by decide +kernel
abbrev sU_readInput : am_Sg := (yX8_readInput, cX8_readInput, 1, none, { frames := 1, cells := 0, slots := 0, locals := 22 })
def cdU_readInput : am_Cd := [(17, [(0, rw0 (.aload_n 0)), (1, rwL (.bipush 10) 10), (3, rw0 (.aload_n 0)), (4, rwF (.getfield 34) 0 2 "FencedCode$Runner" [3, 6] [197, 0]), (7, rw0 (.aload_n 0)), (8, rwF (.getfield 21) 4 0 "FencedCode$Runner" [3, 6] [201, 0]), (11, rwC (.invokevirtual 48) 1 "" [(2, sI_valueAt)] [50, 606, 605, 607, 0, 0]), (14, rwC (.invokevirtual 54) 2 "" [(3, sU_set), (6, sU_set)] [51, 588, 609, 1058, 0, 0, 51, 588, 609, 1059, 0, 0])]), (32, [(17, rw0 (.aload_n 0)), (18, rwF (.getfield 21) 4 0 "FencedCode$Runner" [3, 6] [201, 0]), (21, rwL (.bipush 20) 20), (23, rwN (.if_icmp .ge 13) 36), (26, rw0 (.aload_n 0)), (27, rw0 .dup), (28, rwF (.getfield 21) 4 0 "FencedCode$Runner" [3, 6] [201, 0]), (31, rwL (.iconst 1) 1)]), (37, [(32, rw0 .iadd), (33, rwF (.putfield 21) 4 0 "FencedCode$Runner" [3, 6] [201, 0]), (36, rw0 .return_)])]
set_option maxRecDepth 100000 in
theorem cwU_readInput : am_cw sU_readInput ∈ am_gw := am_mem (i := 604) rfl rfl
set_option maxRecDepth 100000 in
theorem gdU_readInput : am_Good sU_readInput cdU_readInput := by decide +kernel
abbrev sU_get : am_Sg := (yX8_get, cX8_get, 2, some .int, { frames := 0, cells := 0, slots := 0, locals := 0 })
def cdU_get : am_Cd := [(15, [(0, rw0 (.iload_n 1)), (1, rwN (.ifCond .lt 18) 19), (4, rw0 (.iload_n 1)), (5, rwL (.bipush 32) 32), (7, rwN (.if_icmp .ge 12) 19), (10, rw0 (.aload_n 0)), (11, rwF (.getfield 9) 1 2 "FencedCode$Runner" [3, 6] [198, 0]), (14, rw0 (.iload_n 1))]), (21, [(15, rw0 .iaload), (16, rwN (.goto 4) 20), (19, rwL (.iconst 0) 0), (20, rw0 .ireturn)])]
set_option maxRecDepth 100000 in
theorem cwU_get : am_cw sU_get ∈ am_gw := am_mem (i := 619) rfl rfl
set_option maxRecDepth 100000 in
theorem gdU_get : am_Good sU_get cdU_get := by decide +kernel
abbrev sM_comeBack : am_Sg := (yX5_comeBack, cX5_comeBack, 1, none, { frames := 1, cells := 0, slots := 0, locals := 21 })
def cdM_comeBack : am_Cd := [(14, [(0, rw0 (.aload_n 0)), (1, rw0 (.aload_n 0)), (2, rwL (.iconst 1) 1), (3, rwC (.invokevirtual 37) 1 "FencedCode$Machine" [(3, sU_get)] [51, 618, 614, 617, 615, 616]), (6, rwL (.sipush 240) 240), (9, rw0 .iand), (10, rwF (.putfield 19) 7 0 "FencedCode$Machine" [3, 6] [209, 210]), (13, rw0 .return_)])]
set_option maxRecDepth 100000 in
theorem cwM_comeBack : am_cw sM_comeBack ∈ am_gw := am_mem (i := 613) rfl rfl
set_option maxRecDepth 100000 in
theorem gdM_comeBack : am_Good sM_comeBack cdM_comeBack := by decide +kernel
abbrev sU_writeOutput : am_Sg := (yX8_writeOutput, cX8_writeOutput, 1, none, { frames := 1, cells := 0, slots := 0, locals := 21 })
def cdU_writeOutput : am_Cd := [(17, [(0, rw0 (.aload_n 0)), (1, rwF (.getfield 25) 5 0 "FencedCode$Runner" [3, 6] [202, 0]), (4, rwN (.ifCond .lt 37) 41), (7, rw0 (.aload_n 0)), (8, rwF (.getfield 25) 5 0 "FencedCode$Runner" [3, 6] [202, 0]), (11, rwL (.bipush 40) 40), (13, rwN (.if_icmp .ge 28) 41), (16, rw0 (.aload_n 0))]), (32, [(17, rwF (.getfield 18) 3 2 "FencedCode$Runner" [3, 6] [200, 0]), (20, rw0 (.aload_n 0)), (21, rwF (.getfield 25) 5 0 "FencedCode$Runner" [3, 6] [202, 0]), (24, rw0 (.aload_n 0)), (25, rwL (.bipush 10) 10), (27, rwC (.invokevirtual 58) 1 "" [(3, sU_get), (6, sU_get)] [51, 618, 626, 1061, 0, 0, 51, 618, 626, 1062, 0, 0]), (30, rw0 .iastore), (31, rw0 (.aload_n 0))]), (42, [(32, rw0 .dup), (33, rwF (.getfield 25) 5 0 "FencedCode$Runner" [3, 6] [202, 0]), (36, rwL (.iconst 1) 1), (37, rw0 .iadd), (38, rwF (.putfield 25) 5 0 "FencedCode$Runner" [3, 6] [202, 0]), (41, rw0 .return_)])]
set_option maxRecDepth 100000 in
theorem cwU_writeOutput : am_cw sU_writeOutput ∈ am_gw := am_mem (i := 625) rfl rfl
set_option maxRecDepth 100000 in
theorem gdU_writeOutput : am_Good sU_writeOutput cdU_writeOutput := by decide +kernel
abbrev sU_moves : am_Sg := (yX8_moves, cX8_moves, 6, some .boolean, { frames := 1, cells := 0, slots := 0, locals := 22 })
def cdU_moves : am_Cd := [(14, [(0, rw0 (.aload_n 0)), (1, rw0 (.iload_n 3)), (2, rwC (.invokevirtual 58) 1 "" [(3, sU_get), (6, sU_get)] [51, 618, 626, 1061, 0, 0, 51, 618, 626, 1062, 0, 0]), (5, rw0 (.iload 4)), (7, rw0 .iadd), (8, rwL (.sipush 4096) 4096), (11, rw0 .isub), (12, rw0 (.istore 5))]), (30, [(14, rw0 (.iload 5)), (16, rwN (.ifCond .lt 17) 33), (19, rw0 (.iload 5)), (21, rwL (.bipush 64) 64), (23, rwN (.if_icmp .ge 10) 33), (26, rw0 (.iload 5)), (28, rwL (.iconst 4) 4), (29, rw0 .irem)]), (43, [(30, rwN (.ifCond .eq 5) 35), (33, rwL (.iconst 0) 0), (34, rw0 .ireturn), (35, rw0 (.iload_n 1)), (36, rwL (.bipush 6) 6), (38, rwN (.if_icmp .ne 20) 58), (41, rw0 (.aload_n 0)), (42, rw0 (.iload_n 2))]), (58, [(43, rw0 (.aload_n 0)), (44, rwF (.getfield 15) 2 2 "FencedCode$Runner" [3, 6] [199, 0]), (47, rw0 (.iload 5)), (49, rwL (.iconst 4) 4), (50, rw0 .idiv), (51, rw0 .iaload), (52, rwC (.invokevirtual 54) 2 "" [(3, sU_set), (6, sU_set)] [51, 588, 609, 1058, 0, 0, 51, 588, 609, 1059, 0, 0]), (55, rwN (.goto 17) 72)]), (71, [(58, rw0 (.aload_n 0)), (59, rwF (.getfield 15) 2 2 "FencedCode$Runner" [3, 6] [199, 0]), (62, rw0 (.iload 5)), (64, rwL (.iconst 4) 4), (65, rw0 .idiv), (66, rw0 (.aload_n 0)), (67, rw0 (.iload_n 2)), (68, rwC (.invokevirtual 58) 1 "" [(3, sU_get), (6, sU_get)] [51, 618, 626, 1061, 0, 0, 51, 618, 626, 1062, 0, 0])]), (74, [(71, rw0 .iastore), (72, rwL (.iconst 1) 1), (73, rw0 .ireturn)])]
set_option maxRecDepth 100000 in
theorem cwU_moves : am_cw sU_moves ∈ am_gw := am_mem (i := 642) rfl rfl
set_option maxRecDepth 100000 in
theorem gdU_moves : am_Good sU_moves cdU_moves := by decide +kernel
abbrev sU_branches : am_Sg := (yX8_branches, cX8_branches, 4, some .boolean, { frames := 1, cells := 0, slots := 0, locals := 21 })
def cdU_branches : am_Cd := [(38, [(0, rw0 (.iload_n 1)), (1, rwS (.lookupswitch 65 #[(8, 27), (9, 46)]) 66 [(8, 28), (9, 47)]), (28, rw0 (.aload_n 0)), (29, rw0 (.iload_n 2)), (30, rwC (.invokevirtual 58) 1 "" [(3, sU_get), (6, sU_get)] [51, 618, 626, 1061, 0, 0, 51, 618, 626, 1062, 0, 0]), (33, rw0 (.aload_n 0)), (34, rw0 (.iload_n 3)), (35, rwC (.invokevirtual 58) 1 "" [(3, sU_get), (6, sU_get)] [51, 618, 626, 1061, 0, 0, 51, 618, 626, 1062, 0, 0])]), (52, [(38, rwN (.if_icmp .ne 7) 45), (41, rwL (.iconst 1) 1), (42, rwN (.goto 4) 46), (45, rwL (.iconst 0) 0), (46, rw0 .ireturn), (47, rw0 (.aload_n 0)), (48, rw0 (.iload_n 2)), (49, rwC (.invokevirtual 58) 1 "" [(3, sU_get), (6, sU_get)] [51, 618, 626, 1061, 0, 0, 51, 618, 626, 1062, 0, 0])]), (66, [(52, rw0 (.aload_n 0)), (53, rw0 (.iload_n 3)), (54, rwC (.invokevirtual 58) 1 "" [(3, sU_get), (6, sU_get)] [51, 618, 626, 1061, 0, 0, 51, 618, 626, 1062, 0, 0]), (57, rwN (.if_icmp .eq 7) 64), (60, rwL (.iconst 1) 1), (61, rwN (.goto 4) 65), (64, rwL (.iconst 0) 0), (65, rw0 .ireturn)]), (80, [(66, rw0 (.aload_n 0)), (67, rw0 (.iload_n 2)), (68, rwC (.invokevirtual 58) 1 "" [(3, sU_get), (6, sU_get)] [51, 618, 626, 1061, 0, 0, 51, 618, 626, 1062, 0, 0]), (71, rw0 (.aload_n 0)), (72, rw0 (.iload_n 3)), (73, rwC (.invokevirtual 58) 1 "" [(3, sU_get), (6, sU_get)] [51, 618, 626, 1061, 0, 0, 51, 618, 626, 1062, 0, 0]), (76, rwN (.if_icmp .ge 7) 83), (79, rwL (.iconst 1) 1)]), (85, [(80, rwN (.goto 4) 84), (83, rwL (.iconst 0) 0), (84, rw0 .ireturn)])]
set_option maxRecDepth 100000 in
theorem cwU_branches : am_cw sU_branches ∈ am_gw := am_mem (i := 648) rfl rfl
set_option maxRecDepth 100000 in
theorem gdU_branches : am_Good sU_branches cdU_branches := by decide +kernel
abbrev sU_compute : am_Sg := (yX8_compute, cX8_compute, 5, none, { frames := 1, cells := 0, slots := 0, locals := 22 })
def cdU_compute : am_Cd := [(84, [(0, rw0 (.iload_n 1)), (1, rwS (.tableswitch 211 0 14 #[75, 95, 115, 135, 155, 171, 211, 211, 211, 211, 211, 211, 211, 183, 198]) 212 [(0, 76), (1, 96), (2, 116), (3, 136), (4, 156), (5, 172), (6, 212), (7, 212), (8, 212), (9, 212), (10, 212), (11, 212), (12, 212), (13, 184), (14, 199)]), (76, rw0 (.aload_n 0)), (77, rw0 (.iload_n 2)), (78, rw0 (.aload_n 0)), (79, rw0 (.iload_n 3)), (80, rwC (.invokevirtual 58) 1 "" [(3, sU_get), (6, sU_get)] [51, 618, 626, 1061, 0, 0, 51, 618, 626, 1062, 0, 0]), (83, rw0 (.aload_n 0))]), (99, [(84, rw0 (.iload 4)), (86, rwC (.invokevirtual 58) 1 "" [(3, sU_get), (6, sU_get)] [51, 618, 626, 1061, 0, 0, 51, 618, 626, 1062, 0, 0]), (89, rw0 .iadd), (90, rwC (.invokevirtual 54) 2 "" [(3, sU_set), (6, sU_set)] [51, 588, 609, 1058, 0, 0, 51, 588, 609, 1059, 0, 0]), (93, rwN (.goto 119) 212), (96, rw0 (.aload_n 0)), (97, rw0 (.iload_n 2)), (98, rw0 (.aload_n 0))]), (116, [(99, rw0 (.iload_n 3)), (100, rwC (.invokevirtual 58) 1 "" [(3, sU_get), (6, sU_get)] [51, 618, 626, 1061, 0, 0, 51, 618, 626, 1062, 0, 0]), (103, rw0 (.aload_n 0)), (104, rw0 (.iload 4)), (106, rwC (.invokevirtual 58) 1 "" [(3, sU_get), (6, sU_get)] [51, 618, 626, 1061, 0, 0, 51, 618, 626, 1062, 0, 0]), (109, rw0 .isub), (110, rwC (.invokevirtual 54) 2 "" [(3, sU_set), (6, sU_set)] [51, 588, 609, 1058, 0, 0, 51, 588, 609, 1059, 0, 0]), (113, rwN (.goto 99) 212)]), (129, [(116, rw0 (.aload_n 0)), (117, rw0 (.iload_n 2)), (118, rw0 (.aload_n 0)), (119, rw0 (.iload_n 3)), (120, rwC (.invokevirtual 58) 1 "" [(3, sU_get), (6, sU_get)] [51, 618, 626, 1061, 0, 0, 51, 618, 626, 1062, 0, 0]), (123, rw0 (.aload_n 0)), (124, rw0 (.iload 4)), (126, rwC (.invokevirtual 58) 1 "" [(3, sU_get), (6, sU_get)] [51, 618, 626, 1061, 0, 0, 51, 618, 626, 1062, 0, 0])]), (143, [(129, rw0 .iand), (130, rwC (.invokevirtual 54) 2 "" [(3, sU_set), (6, sU_set)] [51, 588, 609, 1058, 0, 0, 51, 588, 609, 1059, 0, 0]), (133, rwN (.goto 79) 212), (136, rw0 (.aload_n 0)), (137, rw0 (.iload_n 2)), (138, rw0 (.aload_n 0)), (139, rw0 (.iload_n 3)), (140, rwC (.invokevirtual 58) 1 "" [(3, sU_get), (6, sU_get)] [51, 618, 626, 1061, 0, 0, 51, 618, 626, 1062, 0, 0])]), (158, [(143, rw0 (.aload_n 0)), (144, rw0 (.iload 4)), (146, rwC (.invokevirtual 58) 1 "" [(3, sU_get), (6, sU_get)] [51, 618, 626, 1061, 0, 0, 51, 618, 626, 1062, 0, 0]), (149, rw0 .ior), (150, rwC (.invokevirtual 54) 2 "" [(3, sU_set), (6, sU_set)] [51, 588, 609, 1058, 0, 0, 51, 588, 609, 1059, 0, 0]), (153, rwN (.goto 59) 212), (156, rw0 (.aload_n 0)), (157, rw0 (.iload_n 2))]), (173, [(158, rw0 (.aload_n 0)), (159, rw0 (.iload_n 3)), (160, rwC (.invokevirtual 58) 1 "" [(3, sU_get), (6, sU_get)] [51, 618, 626, 1061, 0, 0, 51, 618, 626, 1062, 0, 0]), (163, rw0 (.iload 4)), (165, rw0 .iadd), (166, rwC (.invokevirtual 54) 2 "" [(3, sU_set), (6, sU_set)] [51, 588, 609, 1058, 0, 0, 51, 588, 609, 1059, 0, 0]), (169, rwN (.goto 43) 212), (172, rw0 (.aload_n 0))]), (186, [(173, rw0 (.iload_n 2)), (174, rw0 (.iload_n 3)), (175, rwL (.bipush 12) 12), (177, rw0 .ishl), (178, rwC (.invokevirtual 54) 2 "" [(3, sU_set), (6, sU_set)] [51, 588, 609, 1058, 0, 0, 51, 588, 609, 1059, 0, 0]), (181, rwN (.goto 31) 212), (184, rw0 (.aload_n 0)), (185, rw0 (.iload_n 2))]), (200, [(186, rw0 (.aload_n 0)), (187, rw0 (.iload_n 2)), (188, rwC (.invokevirtual 58) 1 "" [(3, sU_get), (6, sU_get)] [51, 618, 626, 1061, 0, 0, 51, 618, 626, 1062, 0, 0]), (191, rw0 (.iload_n 3)), (192, rw0 .iadd), (193, rwC (.invokevirtual 54) 2 "" [(3, sU_set), (6, sU_set)] [51, 588, 609, 1058, 0, 0, 51, 588, 609, 1059, 0, 0]), (196, rwN (.goto 16) 212), (199, rw0 (.aload_n 0))]), (213, [(200, rw0 (.iload_n 2)), (201, rw0 (.aload_n 0)), (202, rw0 (.iload_n 3)), (203, rwC (.invokevirtual 58) 1 "" [(3, sU_get), (6, sU_get)] [51, 618, 626, 1061, 0, 0, 51, 618, 626, 1062, 0, 0]), (206, rwC (.invokevirtual 54) 2 "" [(3, sU_set), (6, sU_set)] [51, 588, 609, 1058, 0, 0, 51, 588, 609, 1059, 0, 0]), (209, rwN (.goto 3) 212), (212, rw0 .return_)])]
set_option maxRecDepth 100000 in
theorem cwU_compute : am_cw sU_compute ∈ am_gw := am_mem (i := 654) rfl rfl
set_option maxRecDepth 100000 in
theorem gdU_compute : am_Good sU_compute cdU_compute := by decide +kernel
abbrev sM_stepInCode : am_Sg := (yX5_stepInCode, cX5_stepInCode, 8, some .int, { frames := 3, cells := 0, slots := 0, locals := 64 })
def cdM_stepInCode : am_Cd := [(17, [(0, rw0 (.iload_n 1)), (1, rwL (.bipush 48) 48), (3, rwN (.if_icmp .lt 20) 23), (6, rw0 (.iload_n 1)), (7, rw0 (.aload_n 0)), (8, rwF (.getfield 9) 8 2 "FencedCode$Machine" [3] [196, 0]), (11, rwF (.getfield 40) 1 0 "FencedCode$Code" [1] [115, 0]), (14, rwN (.if_icmp .ge 9) 23)]), (29, [(17, rw0 (.iload_n 1)), (18, rwL (.iconst 2) 2), (19, rw0 .irem), (20, rwN (.ifCond .eq 5) 25), (23, rwL (.iconst 2) 2), (24, rw0 .ireturn), (25, rw0 (.aload_n 0)), (26, rwF (.getfield 9) 8 2 "FencedCode$Machine" [3] [196, 0])]), (41, [(29, rw0 (.iload_n 1)), (30, rwC (.invokevirtual 45) 1 "" [(1, sC_fetch)] [46, 497, 631, 498, 0, 0]), (33, rw0 (.istore_n 2)), (34, rw0 (.iload_n 2)), (35, rwC (.invokestatic 48) 1 "" [(0, sF_kindOf)] [49, 302, 632]), (38, rw0 (.istore_n 3)), (39, rw0 (.iload_n 3)), (40, rwL (.iconst (-1)) (-1))]), (54, [(41, rwN (.if_icmp .ne 5) 46), (44, rwL (.iconst 3) 3), (45, rw0 .ireturn), (46, rw0 (.iload_n 3)), (47, rw0 (.iload_n 2)), (48, rwC (.invokestatic 53) 2 "" [(0, sF_firstOf)] [49, 516, 633]), (51, rw0 (.istore 4)), (53, rw0 (.iload_n 3))]), (68, [(54, rw0 (.iload_n 2)), (55, rwC (.invokestatic 57) 2 "" [(0, sF_secondOf)] [49, 525, 634]), (58, rw0 (.istore 5)), (60, rw0 (.iload_n 3)), (61, rw0 (.iload_n 2)), (62, rwC (.invokestatic 60) 2 "" [(0, sF_thirdOf)] [49, 531, 635]), (65, rw0 (.istore 6)), (67, rw0 (.iload_n 1))]), (122, [(68, rw0 (.iload_n 2)), (69, rwC (.invokestatic 63) 1 "" [(0, sF_sizeOf)] [49, 439, 636]), (72, rw0 .iadd), (73, rw0 (.istore 7)), (75, rw0 (.iload_n 3)), (76, rwS (.tableswitch 143 6 12 #[44, 44, 69, 69, 69, 97, 116]) 219 [(6, 120), (7, 120), (8, 145), (9, 145), (10, 145), (11, 173), (12, 192)]), (120, rw0 (.aload_n 0)), (121, rw0 (.iload_n 3))]), (137, [(122, rw0 (.iload 4)), (124, rw0 (.iload 5)), (126, rw0 (.iload 6)), (128, rwC (.invokevirtual 66) 4 "FencedCode$Machine" [(3, sU_moves)] [51, 641, 637, 640, 638, 639]), (131, rwN (.ifCond .ne 5) 136), (134, rwL (.iconst 4) 4), (135, rw0 .ireturn), (136, rw0 (.aload_n 0))]), (152, [(137, rw0 (.iload 7)), (139, rwF (.putfield 19) 7 0 "FencedCode$Machine" [3, 6] [209, 210]), (142, rwN (.goto 94) 236), (145, rw0 (.aload_n 0)), (146, rw0 (.aload_n 0)), (147, rw0 (.iload_n 3)), (148, rw0 (.iload 4)), (150, rw0 (.iload 5))]), (170, [(152, rwC (.invokevirtual 70) 3 "FencedCode$Machine" [(3, sU_branches)] [51, 647, 643, 646, 644, 645]), (155, rwN (.ifCond .eq 10) 165), (158, rw0 (.iload_n 1)), (159, rw0 (.iload 6)), (161, rw0 .iadd), (162, rwN (.goto 5) 167), (165, rw0 (.iload 7)), (167, rwF (.putfield 19) 7 0 "FencedCode$Machine" [3, 6] [209, 210])]), (184, [(170, rwN (.goto 66) 236), (173, rw0 (.aload_n 0)), (174, rw0 (.iload_n 1)), (175, rw0 (.iload 5)), (177, rw0 .iadd), (178, rwF (.putfield 19) 7 0 "FencedCode$Machine" [3, 6] [209, 210]), (181, rw0 (.aload_n 0)), (182, rw0 (.iload 4))]), (201, [(184, rw0 (.iload 7)), (186, rwC (.invokevirtual 15) 2 "FencedCode$Machine" [(3, sU_set)] [51, 588, 584, 587, 585, 586]), (189, rwN (.goto 47) 236), (192, rw0 (.aload_n 0)), (193, rw0 (.aload_n 0)), (194, rw0 (.iload 5)), (196, rwC (.invokevirtual 37) 1 "FencedCode$Machine" [(3, sU_get)] [51, 618, 614, 617, 615, 616]), (199, rw0 (.iload 6))]), (216, [(201, rw0 .iadd), (202, rwL (.bipush (-2)) (-2)), (204, rw0 .iand), (205, rwF (.putfield 19) 7 0 "FencedCode$Machine" [3, 6] [209, 210]), (208, rw0 (.aload_n 0)), (209, rw0 (.iload 4)), (211, rw0 (.iload 7)), (213, rwC (.invokevirtual 15) 2 "FencedCode$Machine" [(3, sU_set)] [51, 588, 584, 587, 585, 586])]), (231, [(216, rwN (.goto 20) 236), (219, rw0 (.aload_n 0)), (220, rw0 (.iload_n 3)), (221, rw0 (.iload 4)), (223, rw0 (.iload 5)), (225, rw0 (.iload 6)), (227, rwC (.invokevirtual 74) 4 "FencedCode$Machine" [(3, sU_compute)] [51, 653, 649, 652, 650, 651]), (230, rw0 (.aload_n 0))]), (238, [(231, rw0 (.iload 7)), (233, rwF (.putfield 19) 7 0 "FencedCode$Machine" [3, 6] [209, 210]), (236, rwL (.iconst 0) 0), (237, rw0 .ireturn)])]
set_option maxRecDepth 100000 in
theorem cwM_stepInCode : am_cw sM_stepInCode ∈ am_gw := am_mem (i := 630) rfl rfl
set_option maxRecDepth 100000 in
theorem gdM_stepInCode : am_Good sM_stepInCode cdM_stepInCode := by decide +kernel
abbrev sM_step : am_Sg := (yX5_step, cX5_step, 1, some .int, { frames := 4, cells := 0, slots := 0, locals := 91 })
def cdM_step : am_Cd := [(49, [(0, rw0 (.aload_n 0)), (1, rwF (.getfield 19) 7 0 "FencedCode$Machine" [3, 6] [209, 210]), (4, rwS (.lookupswitch 58 #[(0, 36), (16, 46), (32, 56)]) 62 [(0, 40), (16, 50), (32, 60)]), (40, rw0 (.aload_n 0)), (41, rwC (.invokevirtual 23) 0 "FencedCode$Machine" [(3, sU_readInput)] [51, 603, 599, 602, 600, 601]), (44, rw0 (.aload_n 0)), (45, rwC (.invokevirtual 27) 0 "" [(3, sM_comeBack)] [52, 612, 610, 13, 0, 0]), (48, rwL (.iconst 0) 0)]), (61, [(49, rw0 .ireturn), (50, rw0 (.aload_n 0)), (51, rwC (.invokevirtual 30) 0 "FencedCode$Machine" [(3, sU_writeOutput)] [51, 624, 620, 623, 621, 622]), (54, rw0 (.aload_n 0)), (55, rwC (.invokevirtual 27) 0 "" [(3, sM_comeBack)] [52, 612, 610, 13, 0, 0]), (58, rwL (.iconst 0) 0), (59, rw0 .ireturn), (60, rwL (.iconst 1) 1)]), (71, [(61, rw0 .ireturn), (62, rw0 (.aload_n 0)), (63, rw0 (.aload_n 0)), (64, rwF (.getfield 19) 7 0 "FencedCode$Machine" [3, 6] [209, 210]), (67, rwC (.invokevirtual 33) 1 "" [(3, sM_stepInCode)] [52, 629, 627, 14, 0, 0]), (70, rw0 .ireturn)])]
set_option maxRecDepth 100000 in
theorem cwM_step : am_cw sM_step ∈ am_gw := am_mem (i := 598) rfl rfl
set_option maxRecDepth 100000 in
theorem gdM_step : am_Good sM_step cdM_step := by decide +kernel
abbrev sP_init : am_Sg := (yX6_init, cX6_init, 1, none, { frames := 1, cells := 6, slots := 121, locals := 20 })
def cdP_init : am_Cd := [(15, [(0, rw0 (.aload_n 0)), (1, rwC (.invokespecial 3) 0 "" [] [71, 64, 65]), (4, rw0 (.aload_n 0)), (5, rwL (.bipush 20) 20), (7, (.newarray .int, 20, 20, "", [], [], [], [105])), (9, rwF (.putfield 9) 0 2 "FencedCode$Program" [4] [72, 0]), (12, rw0 (.aload_n 0)), (13, rwL (.bipush 20) 20)]), (31, [(15, (.newarray .int, 20, 20, "", [], [], [], [105])), (17, rwF (.putfield 15) 1 2 "FencedCode$Program" [4] [73, 0]), (20, rw0 (.aload_n 0)), (21, rwL (.bipush 20) 20), (23, (.newarray .int, 20, 20, "", [], [], [], [105])), (25, rwF (.putfield 18) 2 2 "FencedCode$Program" [4] [74, 0]), (28, rw0 (.aload_n 0)), (29, rwL (.bipush 20) 20)]), (47, [(31, (.newarray .int, 20, 20, "", [], [], [], [105])), (33, rwF (.putfield 21) 3 2 "FencedCode$Program" [4] [75, 0]), (36, rw0 (.aload_n 0)), (37, rwL (.bipush 21) 21), (39, (.newarray .int, 21, 21, "", [], [], [], [105])), (41, rwF (.putfield 24) 4 2 "FencedCode$Program" [4] [76, 0]), (44, rw0 (.aload_n 0)), (45, rwL (.bipush 20) 20)]), (62, [(47, (.newarray .int, 20, 20, "", [], [], [], [105])), (49, rwF (.putfield 27) 5 2 "FencedCode$Program" [4] [78, 0]), (52, rw0 (.aload_n 0)), (53, rwL (.iconst 0) 0), (54, rwF (.putfield 30) 6 0 "FencedCode$Program" [4] [80, 0]), (57, rw0 (.aload_n 0)), (58, rwL (.iconst 0) 0), (59, rwF (.putfield 34) 7 0 "FencedCode$Program" [4] [85, 0])]), (63, [(62, rw0 .return_)])]
set_option maxRecDepth 100000 in
theorem cwP_init : am_cw sP_init ∈ am_gw := am_mem (i := 70) rfl rfl
set_option maxRecDepth 100000 in
theorem gdP_init : am_Good sP_init cdP_init := by decide +kernel
abbrev sP_isFree : am_Sg := (yX6_isFree, cX6_isFree, 1, some .boolean, { frames := 1, cells := 0, slots := 0, locals := 22 })
def cdP_isFree : am_Cd := [(8, [(0, rw0 (.iload_n 0)), (1, rwL (.iconst 0) 0), (2, rwL (.bipush 26) 26), (4, rwC (.invokestatic 44) 3 "FencedCode" [(0, sX_within)] [44, 285, 338]), (7, rw0 .ireturn)])]
set_option maxRecDepth 100000 in
theorem cwP_isFree : am_cw sP_isFree ∈ am_gw := am_mem (i := 337) rfl rfl
set_option maxRecDepth 100000 in
theorem gdP_isFree : am_Good sP_isFree cdP_isFree := by decide +kernel
abbrev sP_mayBeTarget : am_Sg := (yX6_mayBeTarget, cX6_mayBeTarget, 1, some .boolean, { frames := 1, cells := 0, slots := 0, locals := 22 })
def cdP_mayBeTarget : am_Cd := [(8, [(0, rw0 (.iload_n 0)), (1, rwL (.iconst 0) 0), (2, rwL (.bipush 20) 20), (4, rwC (.invokestatic 44) 3 "FencedCode" [(0, sX_within)] [44, 285, 338]), (7, rw0 .ireturn)])]
set_option maxRecDepth 100000 in
theorem cwP_mayBeTarget : am_cw sP_mayBeTarget ∈ am_gw := am_mem (i := 341) rfl rfl
set_option maxRecDepth 100000 in
theorem gdP_mayBeTarget : am_Good sP_mayBeTarget cdP_mayBeTarget := by decide +kernel
abbrev sP_allows : am_Sg := (yX6_allows, cX6_allows, 4, some .boolean, { frames := 3, cells := 0, slots := 0, locals := 66 })
def cdP_allows : am_Cd := [(66, [(0, rw0 (.iload_n 0)), (1, rwS (.tableswitch 125 8 16 #[51, 51, 51, 78, 98, 125, 125, 118, 78]) 126 [(8, 52), (9, 52), (10, 52), (11, 79), (12, 99), (13, 126), (14, 126), (15, 119), (16, 79)]), (52, rw0 (.iload_n 1)), (53, rwC (.invokestatic 37) 1 "" [(0, sP_isFree)] [45, 336, 335]), (56, rwN (.ifCond .eq 21) 77), (59, rw0 (.iload_n 2)), (60, rwC (.invokestatic 37) 1 "" [(0, sP_isFree)] [45, 336, 335]), (63, rwN (.ifCond .eq 14) 77)]), (80, [(66, rw0 (.iload_n 3)), (67, rwC (.invokestatic 41) 1 "" [(0, sP_mayBeTarget)] [45, 340, 339]), (70, rwN (.ifCond .eq 7) 77), (73, rwL (.iconst 1) 1), (74, rwN (.goto 4) 78), (77, rwL (.iconst 0) 0), (78, rw0 .ireturn), (79, rw0 (.iload_n 1))]), (98, [(80, rwC (.invokestatic 37) 1 "" [(0, sP_isFree)] [45, 336, 335]), (83, rwN (.ifCond .eq 14) 97), (86, rw0 (.iload_n 2)), (87, rwC (.invokestatic 41) 1 "" [(0, sP_mayBeTarget)] [45, 340, 339]), (90, rwN (.ifCond .eq 7) 97), (93, rwL (.iconst 1) 1), (94, rwN (.goto 4) 98), (97, rwL (.iconst 0) 0)]), (114, [(98, rw0 .ireturn), (99, rw0 (.iload_n 1)), (100, rwC (.invokestatic 37) 1 "" [(0, sP_isFree)] [45, 336, 335]), (103, rwN (.ifCond .eq 14) 117), (106, rw0 (.iload_n 2)), (107, rwC (.invokestatic 37) 1 "" [(0, sP_isFree)] [45, 336, 335]), (110, rwN (.ifCond .eq 7) 117), (113, rwL (.iconst 1) 1)]), (126, [(114, rwN (.goto 4) 118), (117, rwL (.iconst 0) 0), (118, rw0 .ireturn), (119, rw0 (.iload_n 1)), (120, rwL (.iconst 0) 0), (121, rwL (.iconst 2) 2), (122, rwC (.invokestatic 44) 3 "FencedCode" [(0, sX_within)] [44, 285, 338]), (125, rw0 .ireturn)]), (136, [(126, rw0 (.iload_n 0)), (127, rw0 (.iload_n 1)), (128, rw0 (.iload_n 2)), (129, rw0 (.iload_n 3)), (130, rwL (.bipush 26) 26), (132, rwC (.invokestatic 48) 5 "" [(0, sF_plainFits)] [49, 293, 342]), (135, rw0 .ireturn)])]
set_option maxRecDepth 100000 in
theorem cwP_allows : am_cw sP_allows ∈ am_gw := am_mem (i := 334) rfl rfl
set_option maxRecDepth 100000 in
theorem gdP_allows : am_Good sP_allows cdP_allows := by decide +kernel
abbrev sP_add : am_Sg := (yX6_add, cX6_add, 5, some .boolean, { frames := 1, cells := 0, slots := 0, locals := 21 })
def cdP_add : am_Cd := [(15, [(0, rw0 (.aload_n 0)), (1, rwF (.getfield 30) 6 0 "FencedCode$Program" [4] [80, 0]), (4, rwL (.bipush 20) 20), (6, rwC (.invokestatic 54) 2 "" [(0, sP_has)] [45, 348, 347]), (9, rwN (.ifCond .ne 5) 14), (12, rwL (.iconst 0) 0), (13, rw0 .ireturn), (14, rw0 (.aload_n 0))]), (29, [(15, rwF (.getfield 9) 0 2 "FencedCode$Program" [4] [72, 0]), (18, rw0 (.aload_n 0)), (19, rwF (.getfield 30) 6 0 "FencedCode$Program" [4] [80, 0]), (22, rw0 (.iload_n 1)), (23, rw0 .iastore), (24, rw0 (.aload_n 0)), (25, rwF (.getfield 15) 1 2 "FencedCode$Program" [4] [73, 0]), (28, rw0 (.aload_n 0))]), (43, [(29, rwF (.getfield 30) 6 0 "FencedCode$Program" [4] [80, 0]), (32, rw0 (.iload_n 2)), (33, rw0 .iastore), (34, rw0 (.aload_n 0)), (35, rwF (.getfield 18) 2 2 "FencedCode$Program" [4] [74, 0]), (38, rw0 (.aload_n 0)), (39, rwF (.getfield 30) 6 0 "FencedCode$Program" [4] [80, 0]), (42, rw0 (.iload_n 3))]), (56, [(43, rw0 .iastore), (44, rw0 (.aload_n 0)), (45, rwF (.getfield 21) 3 2 "FencedCode$Program" [4] [75, 0]), (48, rw0 (.aload_n 0)), (49, rwF (.getfield 30) 6 0 "FencedCode$Program" [4] [80, 0]), (52, rw0 (.iload 4)), (54, rw0 .iastore), (55, rw0 (.aload_n 0))]), (67, [(56, rw0 .dup), (57, rwF (.getfield 30) 6 0 "FencedCode$Program" [4] [80, 0]), (60, rwL (.iconst 1) 1), (61, rw0 .iadd), (62, rwF (.putfield 30) 6 0 "FencedCode$Program" [4] [80, 0]), (65, rwL (.iconst 1) 1), (66, rw0 .ireturn)])]
set_option maxRecDepth 100000 in
theorem cwP_add : am_cw sP_add ∈ am_gw := am_mem (i := 346) rfl rfl
set_option maxRecDepth 100000 in
theorem gdP_add : am_Good sP_add cdP_add := by decide +kernel
abbrev sP_thirdAt : am_Sg := (yX6_thirdAt, cX6_thirdAt, 2, some .int, { frames := 1, cells := 0, slots := 0, locals := 21 })
def cdP_thirdAt : am_Cd := [(16, [(0, rw0 (.iload_n 1)), (1, rw0 (.aload_n 0)), (2, rwF (.getfield 30) 6 0 "FencedCode$Program" [4] [80, 0]), (5, rwC (.invokestatic 54) 2 "" [(0, sP_has)] [45, 348, 347]), (8, rwN (.ifCond .eq 12) 20), (11, rw0 (.aload_n 0)), (12, rwF (.getfield 21) 3 2 "FencedCode$Program" [4] [75, 0]), (15, rw0 (.iload_n 1))]), (22, [(16, rw0 .iaload), (17, rwN (.goto 4) 21), (20, rwL (.iconst 0) 0), (21, rw0 .ireturn)])]
set_option maxRecDepth 100000 in
theorem cwP_thirdAt : am_cw sP_thirdAt ∈ am_gw := am_mem (i := 373) rfl rfl
set_option maxRecDepth 100000 in
theorem gdP_thirdAt : am_Good sP_thirdAt cdP_thirdAt := by decide +kernel
abbrev sP_startAt : am_Sg := (yX6_startAt, cX6_startAt, 2, some .int, { frames := 1, cells := 0, slots := 0, locals := 21 })
def cdP_startAt : am_Cd := [(16, [(0, rw0 (.iload_n 1)), (1, rw0 (.aload_n 0)), (2, rwF (.getfield 30) 6 0 "FencedCode$Program" [4] [80, 0]), (5, rwC (.invokestatic 54) 2 "" [(0, sP_has)] [45, 348, 347]), (8, rwN (.ifCond .eq 12) 20), (11, rw0 (.aload_n 0)), (12, rwF (.getfield 27) 5 2 "FencedCode$Program" [4] [78, 0]), (15, rw0 (.iload_n 1))]), (22, [(16, rw0 .iaload), (17, rwN (.goto 4) 21), (20, rwL (.iconst (-1)) (-1)), (21, rw0 .ireturn)])]
set_option maxRecDepth 100000 in
theorem cwP_startAt : am_cw sP_startAt ∈ am_gw := am_mem (i := 452) rfl rfl
set_option maxRecDepth 100000 in
theorem gdP_startAt : am_Good sP_startAt cdP_startAt := by decide +kernel
abbrev sP_addressOf : am_Sg := (yX6_addressOf, cX6_addressOf, 2, some .int, { frames := 1, cells := 0, slots := 0, locals := 22 })
def cdP_addressOf : am_Cd := [(17, [(0, rw0 (.iload_n 1)), (1, rwL (.iconst 0) 0), (2, rw0 (.aload_n 0)), (3, rwF (.getfield 30) 6 0 "FencedCode$Program" [4] [80, 0]), (6, rwL (.bipush 20) 20), (8, (.invokestatic 58, 0, 0, "", [], [], [], [428, 382, 56, 383])), (11, rwC (.invokestatic 44) 3 "FencedCode" [(0, sX_within)] [44, 285, 338]), (14, rwN (.ifCond .eq 12) 26)]), (28, [(17, rw0 (.aload_n 0)), (18, rwF (.getfield 24) 4 2 "FencedCode$Program" [4] [76, 0]), (21, rw0 (.iload_n 1)), (22, rw0 .iaload), (23, rwN (.goto 4) 27), (26, rwL (.iconst (-1)) (-1)), (27, rw0 .ireturn)])]
set_option maxRecDepth 100000 in
theorem cwP_addressOf : am_cw sP_addressOf ∈ am_gw := am_mem (i := 427) rfl rfl
set_option maxRecDepth 100000 in
theorem gdP_addressOf : am_Good sP_addressOf cdP_addressOf := by decide +kernel
abbrev sP_targetOf : am_Sg := (yX6_targetOf, cX6_targetOf, 2, some .int, { frames := 2, cells := 0, slots := 0, locals := 42 })
def cdP_targetOf : am_Cd := [(62, [(0, rw0 (.aload_n 0)), (1, rw0 (.iload_n 1)), (2, rwC (.invokevirtual 64) 1 "" [(4, sP_kindAt)] [45, 367, 366, 368, 0, 0]), (5, rwS (.tableswitch 63 8 16 #[51, 51, 51, 57, 63, 63, 63, 63, 57]) 68 [(8, 56), (9, 56), (10, 56), (11, 62), (12, 68), (13, 68), (14, 68), (15, 68), (16, 62)]), (56, rw0 (.aload_n 0)), (57, rw0 (.iload_n 1)), (58, rwC (.invokevirtual 68) 1 "" [(4, sP_thirdAt)] [45, 371, 370, 372, 0, 0]), (61, rw0 .ireturn)]), (70, [(62, rw0 (.aload_n 0)), (63, rw0 (.iload_n 1)), (64, rwC (.invokevirtual 71) 1 "" [(4, sP_secondAt)] [45, 375, 374, 376, 0, 0]), (67, rw0 .ireturn), (68, rwL (.iconst 0) 0), (69, rw0 .ireturn)])]
set_option maxRecDepth 100000 in
theorem cwP_targetOf : am_cw sP_targetOf ∈ am_gw := am_mem (i := 365) rfl rfl
set_option maxRecDepth 100000 in
theorem gdP_targetOf : am_Good sP_targetOf cdP_targetOf := by decide +kernel
abbrev sP_targetsExist : am_Sg := (yX6_targetsExist, cX6_targetsExist, 2, some .boolean, { frames := 3, cells := 0, slots := 0, locals := 63 })
def cdP_targetsExist : am_Cd := [(12, [(0, rwL (.iconst 0) 0), (1, rw0 (.istore_n 1)), (2, rw0 (.iload_n 1)), (3, rw0 (.aload_n 0)), (4, rwF (.getfield 30) 6 0 "FencedCode$Program" [4] [80, 0]), (7, rwN (.if_icmp .ge 23) 30), (10, rw0 (.aload_n 0)), (11, rw0 (.iload_n 1))]), (30, [(12, rwC (.invokevirtual 74) 1 "" [(4, sP_targetOf)] [45, 364, 362, 0, 0, 0]), (15, rw0 (.aload_n 0)), (16, rwF (.getfield 30) 6 0 "FencedCode$Program" [4] [80, 0]), (19, rwN (.if_icmp .le 5) 24), (22, rwL (.iconst 0) 0), (23, rw0 .ireturn), (24, rwL (.iinc 1 1) 1), (27, rwN (.goto (-25)) 2)]), (32, [(30, rwL (.iconst 1) 1), (31, rw0 .ireturn)])]
set_option maxRecDepth 100000 in
theorem cwP_targetsExist : am_cw sP_targetsExist ∈ am_gw := am_mem (i := 361) rfl rfl
set_option maxRecDepth 100000 in
theorem gdP_targetsExist : am_Good sP_targetsExist cdP_targetsExist := by decide +kernel
abbrev sP_bundleTargetAt : am_Sg := (yX6_bundleTargetAt, cX6_bundleTargetAt, 3, some .int, { frames := 2, cells := 0, slots := 0, locals := 43 })
def cdP_bundleTargetAt : am_Cd := [(11, [(0, rw0 (.iload_n 1)), (1, rwL (.bipush 16) 16), (3, rw0 .irem), (4, rwN (.ifCond .eq 5) 9), (7, rwL (.iconst (-1)) (-1)), (8, rw0 .ireturn), (9, rwL (.iconst 0) 0), (10, rw0 (.istore_n 2))]), (25, [(11, rw0 (.iload_n 2)), (12, rw0 (.aload_n 0)), (13, rwF (.getfield 30) 6 0 "FencedCode$Program" [4] [80, 0]), (16, rwN (.if_icmp .gt 20) 36), (19, rw0 (.aload_n 0)), (20, rw0 (.iload_n 2)), (21, rwC (.invokevirtual 77) 1 "" [(4, sP_addressOf)] [45, 425, 683, 426, 0, 0]), (24, rw0 (.iload_n 1))]), (38, [(25, rwN (.if_icmp .ne 5) 30), (28, rw0 (.iload_n 2)), (29, rw0 .ireturn), (30, rwL (.iinc 2 1) 1), (33, rwN (.goto (-22)) 11), (36, rwL (.iconst (-1)) (-1)), (37, rw0 .ireturn)])]
set_option maxRecDepth 100000 in
theorem cwP_bundleTargetAt : am_cw sP_bundleTargetAt ∈ am_gw := am_mem (i := 682) rfl rfl
set_option maxRecDepth 100000 in
theorem gdP_bundleTargetAt : am_Good sP_bundleTargetAt cdP_bundleTargetAt := by decide +kernel
abbrev sP_copyFrom : am_Sg := (yX6_copyFrom, cX6_copyFrom, 2, none, { frames := 1, cells := 0, slots := 0, locals := 26 })
def cdP_copyFrom : am_Cd := [(15, [(0, rw0 (.aload_n 1)), (1, rwF (.getfield 9) 0 2 "FencedCode$Program" [4] [72, 0]), (4, rwL (.iconst 0) 0), (5, rw0 (.aload_n 0)), (6, rwF (.getfield 9) 0 2 "FencedCode$Program" [4] [72, 0]), (9, rwL (.iconst 0) 0), (10, rwL (.bipush 20) 20), (12, (.invokestatic 80, 20, 20, "", [0], [], [], [412, 414, 413, 57]))]), (30, [(15, rw0 (.aload_n 1)), (16, rwF (.getfield 15) 1 2 "FencedCode$Program" [4] [73, 0]), (19, rwL (.iconst 0) 0), (20, rw0 (.aload_n 0)), (21, rwF (.getfield 15) 1 2 "FencedCode$Program" [4] [73, 0]), (24, rwL (.iconst 0) 0), (25, rwL (.bipush 20) 20), (27, (.invokestatic 80, 20, 20, "", [0], [], [], [412, 414, 413, 57]))]), (45, [(30, rw0 (.aload_n 1)), (31, rwF (.getfield 18) 2 2 "FencedCode$Program" [4] [74, 0]), (34, rwL (.iconst 0) 0), (35, rw0 (.aload_n 0)), (36, rwF (.getfield 18) 2 2 "FencedCode$Program" [4] [74, 0]), (39, rwL (.iconst 0) 0), (40, rwL (.bipush 20) 20), (42, (.invokestatic 80, 20, 20, "", [0], [], [], [412, 414, 413, 57]))]), (60, [(45, rw0 (.aload_n 1)), (46, rwF (.getfield 21) 3 2 "FencedCode$Program" [4] [75, 0]), (49, rwL (.iconst 0) 0), (50, rw0 (.aload_n 0)), (51, rwF (.getfield 21) 3 2 "FencedCode$Program" [4] [75, 0]), (54, rwL (.iconst 0) 0), (55, rwL (.bipush 20) 20), (57, (.invokestatic 80, 20, 20, "", [0], [], [], [412, 414, 413, 57]))]), (75, [(60, rw0 (.aload_n 1)), (61, rwF (.getfield 24) 4 2 "FencedCode$Program" [4] [76, 0]), (64, rwL (.iconst 0) 0), (65, rw0 (.aload_n 0)), (66, rwF (.getfield 24) 4 2 "FencedCode$Program" [4] [76, 0]), (69, rwL (.iconst 0) 0), (70, rwL (.bipush 21) 21), (72, (.invokestatic 80, 21, 21, "", [0], [], [], [412, 414, 413, 57]))]), (90, [(75, rw0 (.aload_n 1)), (76, rwF (.getfield 27) 5 2 "FencedCode$Program" [4] [78, 0]), (79, rwL (.iconst 0) 0), (80, rw0 (.aload_n 0)), (81, rwF (.getfield 27) 5 2 "FencedCode$Program" [4] [78, 0]), (84, rwL (.iconst 0) 0), (85, rwL (.bipush 20) 20), (87, (.invokestatic 80, 20, 20, "", [0], [], [], [412, 414, 413, 57]))]), (106, [(90, rw0 (.aload_n 0)), (91, rw0 (.aload_n 1)), (92, rwF (.getfield 30) 6 0 "FencedCode$Program" [4] [80, 0]), (95, rwF (.putfield 30) 6 0 "FencedCode$Program" [4] [80, 0]), (98, rw0 (.aload_n 0)), (99, rw0 (.aload_n 1)), (100, rwF (.getfield 34) 7 0 "FencedCode$Program" [4] [85, 0]), (103, rwF (.putfield 34) 7 0 "FencedCode$Program" [4] [85, 0])]), (107, [(106, rw0 .return_)])]
set_option maxRecDepth 100000 in
theorem cwP_copyFrom : am_cw sP_copyFrom ∈ am_gw := am_mem (i := 411) rfl rfl
set_option maxRecDepth 100000 in
theorem gdP_copyFrom : am_Good sP_copyFrom cdP_copyFrom := by decide +kernel
abbrev sR_init : am_Sg := (yX7_init, cX7_init, 3, none, { frames := 1, cells := 0, slots := 0, locals := 20 })
def cdR_init : am_Cd := [(15, [(0, rw0 (.aload_n 0)), (1, rwC (.invokespecial 3) 0 "" [] [127, 64, 65]), (4, rw0 (.aload_n 0)), (5, rwL (.bipush 48) 48), (7, rwF (.putfield 9) 2 0 "FencedCode$Rewriter" [5] [130, 0]), (10, rw0 (.aload_n 0)), (11, rw0 (.aload_n 1)), (12, rwF (.putfield 15) 0 2 "FencedCode$Rewriter" [5] [128, 0])]), (21, [(15, rw0 (.aload_n 0)), (16, rw0 (.aload_n 2)), (17, rwF (.putfield 19) 1 2 "FencedCode$Rewriter" [5] [129, 0]), (20, rw0 .return_)])]
set_option maxRecDepth 100000 in
theorem cwR_init : am_cw sR_init ∈ am_gw := am_mem (i := 126) rfl rfl
set_option maxRecDepth 100000 in
theorem gdR_init : am_Good sR_init cdR_init := by decide +kernel
abbrev sR_write : am_Sg := (yX7_write, cX7_write, 8, none, { frames := 2, cells := 0, slots := 0, locals := 48 })
def cdR_write : am_Cd := [(15, [(0, rw0 (.iload_n 1)), (1, rw0 (.iload_n 2)), (2, rw0 (.iload_n 3)), (3, rw0 (.iload 4)), (5, rwC (.invokestatic 67) 4 "" [(0, sF_pack)] [49, 145, 437]), (8, rw0 (.istore 5)), (10, rw0 (.iload 5)), (12, rwC (.invokestatic 73) 1 "" [(0, sF_sizeOf)] [49, 439, 438])]), (31, [(15, rw0 (.istore 6)), (17, rwL (.iconst 0) 0), (18, rw0 (.istore 7)), (20, rw0 (.iload 7)), (22, rw0 (.iload 6)), (24, rwN (.if_icmp .ge 36) 60), (27, rw0 (.aload_n 0)), (28, rwF (.getfield 19) 1 2 "FencedCode$Rewriter" [5] [129, 0])]), (45, [(31, rw0 (.aload_n 0)), (32, rwF (.getfield 9) 2 0 "FencedCode$Rewriter" [5] [130, 0]), (35, rw0 (.iload 7)), (37, rw0 .iadd), (38, rw0 (.iload 5)), (40, rwL (.bipush 8) 8), (42, rw0 (.iload 7)), (44, rw0 .imul)]), (61, [(45, rw0 .iushr), (46, rwL (.sipush 255) 255), (49, rw0 .iand), (50, rwC (.invokevirtual 76) 2 "" [(1, sC_put)] [46, 442, 441, 443, 0, 0]), (53, rw0 .pop), (54, rwL (.iinc 7 1) 1), (57, rwN (.goto (-37)) 20), (60, rw0 (.aload_n 0))]), (72, [(61, rw0 .dup), (62, rwF (.getfield 9) 2 0 "FencedCode$Rewriter" [5] [130, 0]), (65, rw0 (.iload 6)), (67, rw0 .iadd), (68, rwF (.putfield 9) 2 0 "FencedCode$Rewriter" [5] [130, 0]), (71, rw0 .return_)])]
set_option maxRecDepth 100000 in
theorem cwR_write : am_cw sR_write ∈ am_gw := am_mem (i := 436) rfl rfl
set_option maxRecDepth 100000 in
theorem gdR_write : am_Good sR_write cdR_write := by decide +kernel
abbrev sR_pad : am_Sg := (yX7_pad, cX7_pad, 4, none, { frames := 3, cells := 0, slots := 0, locals := 75 })
def cdR_pad : am_Cd := [(10, [(0, rw0 (.iload_n 1)), (1, rw0 (.aload_n 0)), (2, rwF (.getfield 9) 2 0 "FencedCode$Rewriter" [5] [130, 0]), (5, rw0 .isub), (6, rw0 (.istore_n 2)), (7, rw0 (.iload_n 2)), (8, rwL (.iconst 4) 4), (9, rw0 .irem)]), (23, [(10, rwN (.ifCond .eq 12) 22), (13, rw0 (.aload_n 0)), (14, rwL (.bipush 13) 13), (16, rwL (.iconst 0) 0), (17, rwL (.iconst 0) 0), (18, rwL (.iconst 0) 0), (19, rwC (.invokevirtual 64) 4 "" [(5, sR_write)] [47, 435, 433, 2, 0, 0]), (22, rw0 (.iload_n 2))]), (33, [(23, rwL (.iconst 4) 4), (24, rw0 .idiv), (25, rw0 (.istore_n 3)), (26, rw0 (.iload_n 3)), (27, rwN (.ifCond .le 17) 44), (30, rw0 (.aload_n 0)), (31, rwL (.iconst 4) 4), (32, rwL (.iconst 0) 0)]), (45, [(33, rwL (.iconst 0) 0), (34, rwL (.iconst 0) 0), (35, rwC (.invokevirtual 64) 4 "" [(5, sR_write)] [47, 435, 433, 2, 0, 0]), (38, rwL (.iinc 3 (-1)) (-1)), (41, rwN (.goto (-15)) 26), (44, rw0 .return_)])]
set_option maxRecDepth 100000 in
theorem cwR_pad : am_cw sR_pad ∈ am_gw := am_mem (i := 432) rfl rfl
set_option maxRecDepth 100000 in
theorem gdR_pad : am_Good sR_pad cdR_pad := by decide +kernel
abbrev sR_writeLine : am_Sg := (yX7_writeLine, cX7_writeLine, 5, none, { frames := 3, cells := 0, slots := 0, locals := 75 })
def cdR_writeLine : am_Cd := [(70, [(0, rw0 (.iload_n 1)), (1, rwS (.tableswitch 212 6 16 #[59, 59, 103, 103, 103, 127, 151, 212, 212, 174, 194]) 213 [(6, 60), (7, 60), (8, 104), (9, 104), (10, 104), (11, 128), (12, 152), (13, 213), (14, 213), (15, 175), (16, 195)]), (60, rw0 (.aload_n 0)), (61, rwL (.iconst 4) 4), (62, rwL (.bipush 31) 31), (64, rw0 (.iload_n 3)), (65, rw0 (.iload 4)), (67, rwC (.invokevirtual 64) 4 "" [(5, sR_write)] [47, 435, 433, 2, 0, 0])]), (83, [(70, rw0 (.aload_n 0)), (71, rwL (.iconst 2) 2), (72, rwL (.bipush 31) 31), (74, rwL (.bipush 31) 31), (76, rwL (.bipush 29) 29), (78, rwC (.invokevirtual 64) 4 "" [(5, sR_write)] [47, 435, 433, 2, 0, 0]), (81, rw0 (.aload_n 0)), (82, rwL (.iconst 3) 3)]), (97, [(83, rwL (.bipush 31) 31), (85, rwL (.bipush 31) 31), (87, rwL (.bipush 28) 28), (89, rwC (.invokevirtual 64) 4 "" [(5, sR_write)] [47, 435, 433, 2, 0, 0]), (92, rw0 (.aload_n 0)), (93, rw0 (.iload_n 1)), (94, rw0 (.iload_n 2)), (95, rwL (.bipush 31) 31)]), (109, [(97, rwL (.iconst 0) 0), (98, rwC (.invokevirtual 64) 4 "" [(5, sR_write)] [47, 435, 433, 2, 0, 0]), (101, rwN (.goto 121) 222), (104, rw0 (.aload_n 0)), (105, rw0 (.iload_n 1)), (106, rw0 (.iload_n 2)), (107, rw0 (.iload_n 3)), (108, rw0 (.aload_n 0))]), (128, [(109, rwF (.getfield 15) 0 2 "FencedCode$Rewriter" [5] [128, 0]), (112, rw0 (.iload 4)), (114, rwC (.invokevirtual 37) 1 "" [(4, sP_addressOf)] [45, 425, 424, 426, 0, 0]), (117, rw0 (.aload_n 0)), (118, rwF (.getfield 9) 2 0 "FencedCode$Rewriter" [5] [130, 0]), (121, rw0 .isub), (122, rwC (.invokevirtual 64) 4 "" [(5, sR_write)] [47, 435, 433, 2, 0, 0]), (125, rwN (.goto 97) 222)]), (141, [(128, rw0 (.aload_n 0)), (129, rwL (.bipush 11) 11), (131, rw0 (.iload_n 2)), (132, rw0 (.aload_n 0)), (133, rwF (.getfield 15) 0 2 "FencedCode$Rewriter" [5] [128, 0]), (136, rw0 (.iload_n 3)), (137, rwC (.invokevirtual 37) 1 "" [(4, sP_addressOf)] [45, 425, 424, 426, 0, 0]), (140, rw0 (.aload_n 0))]), (156, [(141, rwF (.getfield 9) 2 0 "FencedCode$Rewriter" [5] [130, 0]), (144, rw0 .isub), (145, rwL (.iconst 0) 0), (146, rwC (.invokevirtual 64) 4 "" [(5, sR_write)] [47, 435, 433, 2, 0, 0]), (149, rwN (.goto 73) 222), (152, rw0 (.aload_n 0)), (153, rwL (.iconst 2) 2), (154, rwL (.bipush 31) 31)]), (169, [(156, rw0 (.iload_n 3)), (157, rwL (.bipush 27) 27), (159, rwC (.invokevirtual 64) 4 "" [(5, sR_write)] [47, 435, 433, 2, 0, 0]), (162, rw0 (.aload_n 0)), (163, rwL (.bipush 12) 12), (165, rw0 (.iload_n 2)), (166, rwL (.bipush 31) 31), (168, rwL (.iconst 0) 0)]), (183, [(169, rwC (.invokevirtual 64) 4 "" [(5, sR_write)] [47, 435, 433, 2, 0, 0]), (172, rwN (.goto 50) 222), (175, rw0 (.aload_n 0)), (176, rwL (.bipush 11) 11), (178, rwL (.iconst 1) 1), (179, rw0 (.iload_n 2)), (180, rwL (.bipush 16) 16), (182, rw0 .imul)]), (197, [(183, rw0 (.aload_n 0)), (184, rwF (.getfield 9) 2 0 "FencedCode$Rewriter" [5] [130, 0]), (187, rw0 .isub), (188, rwL (.iconst 0) 0), (189, rwC (.invokevirtual 64) 4 "" [(5, sR_write)] [47, 435, 433, 2, 0, 0]), (192, rwN (.goto 30) 222), (195, rw0 (.aload_n 0)), (196, rwL (.iconst 4) 4)]), (213, [(197, rw0 (.iload_n 2)), (198, rwL (.iconst 0) 0), (199, rw0 (.aload_n 0)), (200, rwF (.getfield 15) 0 2 "FencedCode$Rewriter" [5] [128, 0]), (203, rw0 (.iload_n 3)), (204, rwC (.invokevirtual 37) 1 "" [(4, sP_addressOf)] [45, 425, 424, 426, 0, 0]), (207, rwC (.invokevirtual 64) 4 "" [(5, sR_write)] [47, 435, 433, 2, 0, 0]), (210, rwN (.goto 12) 222)]), (223, [(213, rw0 (.aload_n 0)), (214, rw0 (.iload_n 1)), (215, rw0 (.iload_n 2)), (216, rw0 (.iload_n 3)), (217, rw0 (.iload 4)), (219, rwC (.invokevirtual 64) 4 "" [(5, sR_write)] [47, 435, 433, 2, 0, 0]), (222, rw0 .return_)])]
set_option maxRecDepth 100000 in
theorem cwR_writeLine : am_cw sR_writeLine ∈ am_gw := am_mem (i := 460) rfl rfl
set_option maxRecDepth 100000 in
theorem gdR_writeLine : am_Good sR_writeLine cdR_writeLine := by decide +kernel
abbrev sR_writeAll : am_Sg := (yX7_writeAll, cX7_writeAll, 2, none, { frames := 4, cells := 0, slots := 0, locals := 99 })
def cdR_writeAll : am_Cd := [(14, [(0, rw0 (.aload_n 0)), (1, rwF (.getfield 19) 1 2 "FencedCode$Rewriter" [5] [129, 0]), (4, rwL (.iconst 0) 0), (5, rwC (.invokevirtual 23) 1 "" [(1, sC_resize)] [46, 420, 419, 421, 0, 0]), (8, rw0 .pop), (9, rw0 (.aload_n 0)), (10, rwF (.getfield 19) 1 2 "FencedCode$Rewriter" [5] [129, 0]), (13, rw0 (.aload_n 0))]), (31, [(14, rwF (.getfield 15) 0 2 "FencedCode$Rewriter" [5] [128, 0]), (17, rwF (.getfield 29) 7 0 "FencedCode$Program" [4] [86, 0]), (20, rwC (.invokevirtual 23) 1 "" [(1, sC_resize)] [46, 420, 419, 421, 0, 0]), (23, rw0 .pop), (24, rw0 (.aload_n 0)), (25, rwL (.bipush 48) 48), (27, rwF (.putfield 9) 2 0 "FencedCode$Rewriter" [5] [130, 0]), (30, rwL (.iconst 0) 0)]), (45, [(31, rw0 (.istore_n 1)), (32, rw0 (.iload_n 1)), (33, rw0 (.aload_n 0)), (34, rwF (.getfield 15) 0 2 "FencedCode$Rewriter" [5] [128, 0]), (37, rwF (.getfield 34) 6 0 "FencedCode$Program" [4] [82, 0]), (40, rwN (.if_icmp .ge 69) 109), (43, rw0 (.aload_n 0)), (44, rw0 (.aload_n 0))]), (61, [(45, rwF (.getfield 15) 0 2 "FencedCode$Rewriter" [5] [128, 0]), (48, rw0 (.iload_n 1)), (49, rwC (.invokevirtual 37) 1 "" [(4, sP_addressOf)] [45, 425, 424, 426, 0, 0]), (52, rwC (.invokevirtual 41) 1 "" [(5, sR_pad)] [47, 431, 429, 1, 0, 0]), (55, rw0 (.aload_n 0)), (56, rw0 (.aload_n 0)), (57, rwF (.getfield 15) 0 2 "FencedCode$Rewriter" [5] [128, 0]), (60, rw0 (.iload_n 1))]), (77, [(61, rwC (.invokevirtual 45) 1 "" [(4, sP_startAt)] [45, 450, 449, 451, 0, 0]), (64, rwC (.invokevirtual 41) 1 "" [(5, sR_pad)] [47, 431, 429, 1, 0, 0]), (67, rw0 (.aload_n 0)), (68, rw0 (.aload_n 0)), (69, rwF (.getfield 15) 0 2 "FencedCode$Rewriter" [5] [128, 0]), (72, rw0 (.iload_n 1)), (73, rwC (.invokevirtual 48) 1 "" [(4, sP_kindAt)] [45, 367, 453, 368, 0, 0]), (76, rw0 (.aload_n 0))]), (93, [(77, rwF (.getfield 15) 0 2 "FencedCode$Rewriter" [5] [128, 0]), (80, rw0 (.iload_n 1)), (81, rwC (.invokevirtual 51) 1 "" [(4, sP_firstAt)] [45, 402, 454, 403, 0, 0]), (84, rw0 (.aload_n 0)), (85, rwF (.getfield 15) 0 2 "FencedCode$Rewriter" [5] [128, 0]), (88, rw0 (.iload_n 1)), (89, rwC (.invokevirtual 54) 1 "" [(4, sP_secondAt)] [45, 375, 455, 376, 0, 0]), (92, rw0 (.aload_n 0))]), (111, [(93, rwF (.getfield 15) 0 2 "FencedCode$Rewriter" [5] [128, 0]), (96, rw0 (.iload_n 1)), (97, rwC (.invokevirtual 57) 1 "" [(4, sP_thirdAt)] [45, 371, 456, 372, 0, 0]), (100, rwC (.invokevirtual 60) 4 "" [(5, sR_writeLine)] [47, 459, 457, 4, 0, 0]), (103, rwL (.iinc 1 1) 1), (106, rwN (.goto (-74)) 32), (109, rw0 (.aload_n 0)), (110, rw0 (.aload_n 0))]), (129, [(111, rwF (.getfield 15) 0 2 "FencedCode$Rewriter" [5] [128, 0]), (114, rw0 (.aload_n 0)), (115, rwF (.getfield 15) 0 2 "FencedCode$Rewriter" [5] [128, 0]), (118, rwF (.getfield 34) 6 0 "FencedCode$Program" [4] [82, 0]), (121, rwC (.invokevirtual 37) 1 "" [(4, sP_addressOf)] [45, 425, 424, 426, 0, 0]), (124, rwC (.invokevirtual 41) 1 "" [(5, sR_pad)] [47, 431, 429, 1, 0, 0]), (127, rw0 (.aload_n 0)), (128, rw0 (.aload_n 0))]), (139, [(129, rwF (.getfield 15) 0 2 "FencedCode$Rewriter" [5] [128, 0]), (132, rwF (.getfield 29) 7 0 "FencedCode$Program" [4] [86, 0]), (135, rwC (.invokevirtual 41) 1 "" [(5, sR_pad)] [47, 431, 429, 1, 0, 0]), (138, rw0 .return_)])]
set_option maxRecDepth 100000 in
theorem cwR_writeAll : am_cw sR_writeAll ∈ am_gw := am_mem (i := 418) rfl rfl
set_option maxRecDepth 100000 in
theorem gdR_writeAll : am_Good sR_writeAll cdR_writeAll := by decide +kernel
abbrev sU_forgetAll : am_Sg := (yX8_forgetAll, cX8_forgetAll, 2, none, { frames := 0, cells := 0, slots := 0, locals := 0 })
def cdU_forgetAll : am_Cd := [(13, [(0, rwL (.iconst 0) 0), (1, rw0 (.istore_n 1)), (2, rw0 (.iload_n 1)), (3, rwL (.bipush 32) 32), (5, rwN (.if_icmp .ge 16) 21), (8, rw0 (.aload_n 0)), (9, rwF (.getfield 9) 1 2 "FencedCode$Runner" [3, 6] [198, 0]), (12, rw0 (.iload_n 1))]), (26, [(13, rwL (.iconst 0) 0), (14, rw0 .iastore), (15, rwL (.iinc 1 1) 1), (18, rwN (.goto (-16)) 2), (21, rwL (.iconst 0) 0), (22, rw0 (.istore_n 1)), (23, rw0 (.iload_n 1)), (24, rwL (.bipush 16) 16)]), (42, [(26, rwN (.if_icmp .ge 16) 42), (29, rw0 (.aload_n 0)), (30, rwF (.getfield 15) 2 2 "FencedCode$Runner" [3, 6] [199, 0]), (33, rw0 (.iload_n 1)), (34, rwL (.iconst 0) 0), (35, rw0 .iastore), (36, rwL (.iinc 1 1) 1), (39, rwN (.goto (-16)) 23)]), (54, [(42, rw0 (.aload_n 0)), (43, rwL (.iconst 0) 0), (44, rwF (.putfield 21) 4 0 "FencedCode$Runner" [3, 6] [201, 0]), (47, rw0 (.aload_n 0)), (48, rwL (.iconst 0) 0), (49, rwF (.putfield 25) 5 0 "FencedCode$Runner" [3, 6] [202, 0]), (52, rw0 (.aload_n 0)), (53, rwL (.iconst 0) 0)]), (58, [(54, rwF (.putfield 28) 6 0 "FencedCode$Runner" [3, 6] [204, 0]), (57, rw0 .return_)])]
set_option maxRecDepth 100000 in
theorem cwU_forgetAll : am_cw sU_forgetAll ∈ am_gw := am_mem (i := 577) rfl rfl
set_option maxRecDepth 100000 in
theorem gdU_forgetAll : am_Good sU_forgetAll cdU_forgetAll := by decide +kernel
abbrev sT_begin : am_Sg := (yX9_begin, cX9_begin, 1, none, { frames := 0, cells := 0, slots := 0, locals := 0 })
def cdT_begin : am_Cd := [(6, [(0, rw0 (.aload_n 0)), (1, rwL (.iconst 0) 0), (2, rwF (.putfield 15) 7 0 "FencedCode$Trial" [3, 6] [207, 208]), (5, rw0 .return_)])]
set_option maxRecDepth 100000 in
theorem cwT_begin : am_cw sT_begin ∈ am_gw := am_mem (i := 592) rfl rfl
set_option maxRecDepth 100000 in
theorem gdT_begin : am_Good sT_begin cdT_begin := by decide +kernel
abbrev sT_leap : am_Sg := (yX9_leap, cX9_leap, 5, some .int, { frames := 3, cells := 0, slots := 0, locals := 65 })
def cdT_leap : am_Cd := [(16, [(0, rw0 (.aload_n 0)), (1, rwF (.getfield 9) 8 2 "FencedCode$Trial" [6] [237, 0]), (4, rw0 (.iload_n 2)), (5, rwC (.invokevirtual 67) 1 "" [(4, sP_bundleTargetAt)] [45, 680, 679, 681, 0, 0]), (8, rw0 (.istore 4)), (10, rw0 (.iload 4)), (12, rwL (.iconst (-1)) (-1)), (13, rwN (.if_icmp .ne 5) 18)]), (27, [(16, rwL (.iconst 5) 5), (17, rw0 .ireturn), (18, rw0 (.aload_n 0)), (19, rw0 (.iload_n 1)), (20, rw0 (.iload_n 3)), (21, rwC (.invokevirtual 48) 2 "FencedCode$Trial" [(6, sU_set)] [51, 588, 669, 671, 670, 586]), (24, rw0 (.aload_n 0)), (25, rw0 (.iload 4))]), (32, [(27, rwF (.putfield 15) 7 0 "FencedCode$Trial" [3, 6] [207, 208]), (30, rwL (.iconst 0) 0), (31, rw0 .ireturn)])]
set_option maxRecDepth 100000 in
theorem cwT_leap : am_cw sT_leap ∈ am_gw := am_mem (i := 678) rfl rfl
set_option maxRecDepth 100000 in
theorem gdT_leap : am_Good sT_leap cdT_leap := by decide +kernel
abbrev sT_serve : am_Sg := (yX9_serve, cX9_serve, 3, some .int, { frames := 2, cells := 0, slots := 0, locals := 42 })
def cdT_serve : am_Cd := [(12, [(0, rw0 (.iload_n 1)), (1, rwL (.iconst 2) 2), (2, rwN (.if_icmp .ne 5) 7), (5, rwL (.iconst 1) 1), (6, rw0 .ireturn), (7, rw0 (.iload_n 1)), (8, rwN (.ifCond .ne 10) 18), (11, rw0 (.aload_n 0))]), (28, [(12, rwC (.invokevirtual 70) 0 "FencedCode$Trial" [(6, sU_readInput)] [51, 603, 688, 690, 689, 601]), (15, rwN (.goto 7) 22), (18, rw0 (.aload_n 0)), (19, rwC (.invokevirtual 74) 0 "FencedCode$Trial" [(6, sU_writeOutput)] [51, 624, 691, 693, 692, 622]), (22, rw0 (.aload_n 0)), (23, rw0 (.iload_n 2)), (24, rwF (.putfield 15) 7 0 "FencedCode$Trial" [3, 6] [207, 208]), (27, rwL (.iconst 0) 0)]), (29, [(28, rw0 .ireturn)])]
set_option maxRecDepth 100000 in
theorem cwT_serve : am_cw sT_serve ∈ am_gw := am_mem (i := 687) rfl rfl
set_option maxRecDepth 100000 in
theorem gdT_serve : am_Good sT_serve cdT_serve := by decide +kernel
abbrev sT_step : am_Sg := (yX9_step, cX9_step, 6, some .int, { frames := 4, cells := 0, slots := 0, locals := 89 })
def cdT_step : am_Cd := [(18, [(0, rw0 (.aload_n 0)), (1, rwF (.getfield 15) 7 0 "FencedCode$Trial" [3, 6] [207, 208]), (4, rwN (.ifCond .lt 17) 21), (7, rw0 (.aload_n 0)), (8, rwF (.getfield 15) 7 0 "FencedCode$Trial" [3, 6] [207, 208]), (11, rw0 (.aload_n 0)), (12, rwF (.getfield 9) 8 2 "FencedCode$Trial" [6] [237, 0]), (15, rwF (.getfield 19) 6 0 "FencedCode$Program" [4] [83, 0])]), (34, [(18, rwN (.if_icmp .lt 5) 23), (21, rwL (.iconst 2) 2), (22, rw0 .ireturn), (23, rw0 (.aload_n 0)), (24, rwF (.getfield 9) 8 2 "FencedCode$Trial" [6] [237, 0]), (27, rw0 (.aload_n 0)), (28, rwF (.getfield 15) 7 0 "FencedCode$Trial" [3, 6] [207, 208]), (31, rwC (.invokevirtual 24) 1 "" [(4, sP_kindAt)] [45, 367, 658, 368, 0, 0])]), (48, [(34, rw0 (.istore_n 1)), (35, rw0 (.aload_n 0)), (36, rwF (.getfield 9) 8 2 "FencedCode$Trial" [6] [237, 0]), (39, rw0 (.aload_n 0)), (40, rwF (.getfield 15) 7 0 "FencedCode$Trial" [3, 6] [207, 208]), (43, rwC (.invokevirtual 28) 1 "" [(4, sP_firstAt)] [45, 402, 659, 403, 0, 0]), (46, rw0 (.istore_n 2)), (47, rw0 (.aload_n 0))]), (64, [(48, rwF (.getfield 9) 8 2 "FencedCode$Trial" [6] [237, 0]), (51, rw0 (.aload_n 0)), (52, rwF (.getfield 15) 7 0 "FencedCode$Trial" [3, 6] [207, 208]), (55, rwC (.invokevirtual 31) 1 "" [(4, sP_secondAt)] [45, 375, 660, 376, 0, 0]), (58, rw0 (.istore_n 3)), (59, rw0 (.aload_n 0)), (60, rwF (.getfield 9) 8 2 "FencedCode$Trial" [6] [237, 0]), (63, rw0 (.aload_n 0))]), (80, [(64, rwF (.getfield 15) 7 0 "FencedCode$Trial" [3, 6] [207, 208]), (67, rwC (.invokevirtual 34) 1 "" [(4, sP_thirdAt)] [45, 371, 661, 372, 0, 0]), (70, rw0 (.istore 4)), (72, rw0 (.aload_n 0)), (73, rwF (.getfield 15) 7 0 "FencedCode$Trial" [3, 6] [207, 208]), (76, rwL (.iconst 1) 1), (77, rw0 .iadd), (78, rw0 (.istore 5))]), (149, [(80, rw0 (.iload_n 1)), (81, rwS (.tableswitch 192 6 16 #[59, 59, 82, 82, 82, 106, 128, 192, 192, 148, 170]) 273 [(6, 140), (7, 140), (8, 163), (9, 163), (10, 163), (11, 187), (12, 209), (13, 273), (14, 273), (15, 229), (16, 251)]), (140, rw0 (.aload_n 0)), (141, rw0 (.iload_n 1)), (142, rw0 (.iload_n 2)), (143, rw0 (.iload_n 3)), (144, rw0 (.iload 4)), (146, rwC (.invokevirtual 37) 4 "FencedCode$Trial" [(6, sU_moves)] [51, 641, 662, 664, 663, 639])]), (164, [(149, rwN (.ifCond .ne 5) 154), (152, rwL (.iconst 4) 4), (153, rw0 .ireturn), (154, rw0 (.aload_n 0)), (155, rw0 (.iload 5)), (157, rwF (.putfield 15) 7 0 "FencedCode$Trial" [3, 6] [207, 208]), (160, rwN (.goto 128) 288), (163, rw0 (.aload_n 0))]), (179, [(164, rw0 (.aload_n 0)), (165, rw0 (.iload_n 1)), (166, rw0 (.iload_n 2)), (167, rw0 (.iload_n 3)), (168, rwC (.invokevirtual 41) 3 "FencedCode$Trial" [(6, sU_branches)] [51, 647, 665, 667, 666, 645]), (171, rwN (.ifCond .eq 8) 179), (174, rw0 (.iload 4)), (176, rwN (.goto 5) 181)]), (195, [(179, rw0 (.iload 5)), (181, rwF (.putfield 15) 7 0 "FencedCode$Trial" [3, 6] [207, 208]), (184, rwN (.goto 104) 288), (187, rw0 (.aload_n 0)), (188, rw0 (.iload_n 2)), (189, rw0 (.aload_n 0)), (190, rwF (.getfield 9) 8 2 "FencedCode$Trial" [6] [237, 0]), (193, rw0 (.iload 5))]), (211, [(195, rwC (.invokevirtual 45) 1 "" [(4, sP_addressOf)] [45, 425, 668, 426, 0, 0]), (198, rwC (.invokevirtual 48) 2 "FencedCode$Trial" [(6, sU_set)] [51, 588, 669, 671, 670, 586]), (201, rw0 (.aload_n 0)), (202, rw0 (.iload_n 3)), (203, rwF (.putfield 15) 7 0 "FencedCode$Trial" [3, 6] [207, 208]), (206, rwN (.goto 82) 288), (209, rw0 (.aload_n 0)), (210, rw0 (.iload_n 2))]), (228, [(211, rw0 (.aload_n 0)), (212, rw0 (.iload_n 3)), (213, rwC (.invokevirtual 52) 1 "FencedCode$Trial" [(6, sU_get)] [51, 618, 672, 674, 673, 616]), (216, rw0 (.aload_n 0)), (217, rwF (.getfield 9) 8 2 "FencedCode$Trial" [6] [237, 0]), (220, rw0 (.iload 5)), (222, rwC (.invokevirtual 45) 1 "" [(4, sP_addressOf)] [45, 425, 668, 426, 0, 0]), (225, rwC (.invokevirtual 55) 3 "" [(6, sT_leap)] [53, 677, 675, 15, 0, 0])]), (243, [(228, rw0 .ireturn), (229, rw0 (.aload_n 0)), (230, rwL (.iconst 1) 1), (231, rw0 (.aload_n 0)), (232, rwF (.getfield 9) 8 2 "FencedCode$Trial" [6] [237, 0]), (235, rw0 (.iload 5)), (237, rwC (.invokevirtual 45) 1 "" [(4, sP_addressOf)] [45, 425, 668, 426, 0, 0]), (240, rwC (.invokevirtual 48) 2 "FencedCode$Trial" [(6, sU_set)] [51, 588, 669, 671, 670, 586])]), (254, [(243, rw0 (.aload_n 0)), (244, rw0 (.iload_n 2)), (245, rw0 (.iload 5)), (247, rwC (.invokevirtual 59) 2 "" [(6, sT_serve)] [53, 686, 684, 16, 0, 0]), (250, rw0 .ireturn), (251, rw0 (.aload_n 0)), (252, rw0 (.iload_n 2)), (253, rw0 (.aload_n 0))]), (273, [(254, rwF (.getfield 9) 8 2 "FencedCode$Trial" [6] [237, 0]), (257, rw0 (.iload_n 3)), (258, rwC (.invokevirtual 45) 1 "" [(4, sP_addressOf)] [45, 425, 668, 426, 0, 0]), (261, rwC (.invokevirtual 48) 2 "FencedCode$Trial" [(6, sU_set)] [51, 588, 669, 671, 670, 586]), (264, rw0 (.aload_n 0)), (265, rw0 (.iload 5)), (267, rwF (.putfield 15) 7 0 "FencedCode$Trial" [3, 6] [207, 208]), (270, rwN (.goto 18) 288)]), (285, [(273, rw0 (.aload_n 0)), (274, rw0 (.iload_n 1)), (275, rw0 (.iload_n 2)), (276, rw0 (.iload_n 3)), (277, rw0 (.iload 4)), (279, rwC (.invokevirtual 63) 4 "FencedCode$Trial" [(6, sU_compute)] [51, 653, 694, 696, 695, 651]), (282, rw0 (.aload_n 0)), (283, rw0 (.iload 5))]), (290, [(285, rwF (.putfield 15) 7 0 "FencedCode$Trial" [3, 6] [207, 208]), (288, rwL (.iconst 0) 0), (289, rw0 .ireturn)])]
set_option maxRecDepth 100000 in
theorem cwT_step : am_cw sT_step ∈ am_gw := am_mem (i := 657) rfl rfl
set_option maxRecDepth 100000 in
theorem gdT_step : am_Good sT_step cdT_step := by decide +kernel
abbrev sU_go : am_Sg := (yX8_go, cX8_go, 4, some .int, { frames := 5, cells := 0, slots := 0, locals := 114 })
def cdU_go : am_Cd := [(14, [(0, rw0 (.aload_n 0)), (1, rwC (.invokevirtual 38) 0 "" [(3, sU_forgetAll), (6, sU_forgetAll)] [51, 576, 574, 1063, 0, 0, 51, 576, 574, 1064, 0, 0]), (4, rw0 (.aload_n 0)), (5, rwC (.invokevirtual 41) 0 "FencedCode$Runner" [(3, sM_begin), (6, sT_begin)] [52, 582, 578, 581, 580, 579, 53, 591, 578, 590, 580, 579]), (8, rw0 (.iload_n 1)), (9, rw0 (.istore_n 2)), (10, rw0 (.iload_n 2)), (11, rwN (.ifCond .le 39) 50)]), (28, [(14, rw0 (.aload_n 0)), (15, rwC (.invokevirtual 44) 0 "FencedCode$Runner" [(3, sM_step), (6, sT_step)] [52, 597, 593, 596, 595, 594, 53, 656, 593, 655, 595, 594]), (18, rw0 (.istore_n 3)), (19, rw0 (.iload_n 3)), (20, rwN (.ifCond .eq 8) 28), (23, rw0 (.iload_n 3)), (24, rwL (.iconst 1) 1), (25, rwN (.if_icmp .ne 13) 38)]), (42, [(28, rw0 (.aload_n 0)), (29, rw0 .dup), (30, rwF (.getfield 28) 6 0 "FencedCode$Runner" [3, 6] [204, 0]), (33, rwL (.iconst 1) 1), (34, rw0 .iadd), (35, rwF (.putfield 28) 6 0 "FencedCode$Runner" [3, 6] [204, 0]), (38, rw0 (.iload_n 3)), (39, rwN (.ifCond .eq 5) 44)]), (52, [(42, rw0 (.iload_n 3)), (43, rw0 .ireturn), (44, rwL (.iinc 2 (-1)) (-1)), (47, rwN (.goto (-37)) 10), (50, rwL (.iconst 0) 0), (51, rw0 .ireturn)])]
set_option maxRecDepth 100000 in
theorem cwU_go : am_cw sU_go ∈ am_gw := am_mem (i := 573) rfl rfl
set_option maxRecDepth 100000 in
theorem gdU_go : am_Good sU_go cdU_go := by decide +kernel
abbrev sU_wordAt : am_Sg := (yX8_wordAt, cX8_wordAt, 2, some .int, { frames := 0, cells := 0, slots := 0, locals := 0 })
def cdU_wordAt : am_Cd := [(15, [(0, rw0 (.iload_n 1)), (1, rwN (.ifCond .lt 18) 19), (4, rw0 (.iload_n 1)), (5, rwL (.bipush 16) 16), (7, rwN (.if_icmp .ge 12) 19), (10, rw0 (.aload_n 0)), (11, rwF (.getfield 15) 2 2 "FencedCode$Runner" [3, 6] [199, 0]), (14, rw0 (.iload_n 1))]), (21, [(15, rw0 .iaload), (16, rwN (.goto 4) 20), (19, rwL (.iconst 0) 0), (20, rw0 .ireturn)])]
set_option maxRecDepth 100000 in
theorem cwU_wordAt : am_cw sU_wordAt ∈ am_gw := am_mem (i := 736) rfl rfl
set_option maxRecDepth 100000 in
theorem gdU_wordAt : am_Good sU_wordAt cdU_wordAt := by decide +kernel
abbrev sU_outputAt : am_Sg := (yX8_outputAt, cX8_outputAt, 2, some .int, { frames := 0, cells := 0, slots := 0, locals := 0 })
def cdU_outputAt : am_Cd := [(15, [(0, rw0 (.iload_n 1)), (1, rwN (.ifCond .lt 26) 27), (4, rw0 (.iload_n 1)), (5, rw0 (.aload_n 0)), (6, rwF (.getfield 25) 5 0 "FencedCode$Runner" [3, 6] [202, 0]), (9, rwN (.if_icmp .ge 18) 27), (12, rw0 (.iload_n 1)), (13, rwL (.bipush 40) 40)]), (29, [(15, rwN (.if_icmp .ge 12) 27), (18, rw0 (.aload_n 0)), (19, rwF (.getfield 18) 3 2 "FencedCode$Runner" [3, 6] [200, 0]), (22, rw0 (.iload_n 1)), (23, rw0 .iaload), (24, rwN (.goto 4) 28), (27, rwL (.iconst 0) 0), (28, rw0 .ireturn)])]
set_option maxRecDepth 100000 in
theorem cwU_outputAt : am_cw sU_outputAt ∈ am_gw := am_mem (i := 721) rfl rfl
set_option maxRecDepth 100000 in
theorem gdU_outputAt : am_Good sU_outputAt cdU_outputAt := by decide +kernel
abbrev sT_init : am_Sg := (yX9_init, cX9_init, 3, none, { frames := 2, cells := 3, slots := 88, locals := 41 })
def cdT_init : am_Cd := [(11, [(0, rw0 (.aload_n 0)), (1, rw0 (.aload_n 2)), (2, rwC (.invokespecial 3) 1 "" [(0, sU_init)] [51, 193, 236]), (5, rw0 (.aload_n 0)), (6, rw0 (.aload_n 1)), (7, rwF (.putfield 9) 8 2 "FencedCode$Trial" [6] [237, 0]), (10, rw0 .return_)])]
set_option maxRecDepth 100000 in
theorem cwT_init : am_cw sT_init ∈ am_gw := am_mem (i := 235) rfl rfl
set_option maxRecDepth 100000 in
theorem gdT_init : am_Good sT_init cdT_init := by decide +kernel
abbrev sX_init : am_Sg := (yX10_init, cX10_init, 1, none, { frames := 3, cells := 29, slots := 995, locals := 69 })
def cdX_init : am_Cd := [(16, [(0, rw0 (.aload_n 0)), (1, rwC (.invokespecial 1) 0 "" [] [63, 64, 65]), (4, rw0 (.aload_n 0)), (5, (.new 7, 4, 0, "", [], [], [], [66, 67, 45])), (8, rw0 .dup), (9, rwC (.invokespecial 9) 0 "FencedCode" [(0, sP_init)] [45, 69, 68]), (12, rwF (.putfield 10) 0 2 "FencedCode" [7] [249, 0]), (15, rw0 (.aload_n 0))]), (34, [(16, (.new 7, 4, 0, "", [], [], [], [66, 67, 45])), (19, rw0 .dup), (20, rwC (.invokespecial 9) 0 "FencedCode" [(0, sP_init)] [45, 69, 68]), (23, rwF (.putfield 16) 1 2 "FencedCode" [7] [250, 0]), (26, rw0 (.aload_n 0)), (27, (.new 19, 1, 0, "", [], [], [], [106, 107, 46])), (30, rw0 .dup), (31, rwC (.invokespecial 21) 0 "FencedCode" [(0, sC_init)] [46, 109, 108])]), (50, [(34, rwF (.putfield 22) 3 2 "FencedCode" [7] [252, 0]), (37, rw0 (.aload_n 0)), (38, (.new 26, 5, 0, "", [], [], [], [122, 123, 47])), (41, rw0 .dup), (42, rw0 (.aload_n 0)), (43, rwF (.getfield 16) 1 2 "FencedCode" [7] [250, 0]), (46, rw0 (.aload_n 0)), (47, rwF (.getfield 22) 3 2 "FencedCode" [7] [252, 0])]), (68, [(50, rwC (.invokespecial 28) 2 "" [(0, sR_init)] [47, 125, 124]), (53, rwF (.putfield 31) 2 2 "FencedCode" [7] [251, 0]), (56, rw0 (.aload_n 0)), (57, (.new 35, 0, 0, "", [], [], [], [138, 139, 48])), (60, rw0 .dup), (61, rw0 (.aload_n 0)), (62, rwF (.getfield 22) 3 2 "FencedCode" [7] [252, 0]), (65, rwC (.invokespecial 37) 1 "" [(0, sK_init)] [48, 141, 140])]), (86, [(68, rwF (.putfield 40) 4 2 "FencedCode" [7] [253, 0]), (71, rw0 (.aload_n 0)), (72, (.new 44, 2, 0, "", [], [], [], [173, 174, 50])), (75, rw0 .dup), (76, rwC (.invokespecial 46) 0 "FencedCode" [(0, sI_init)] [50, 176, 175]), (79, rwF (.putfield 47) 5 2 "FencedCode" [7] [254, 0]), (82, rw0 (.aload_n 0)), (83, (.new 51, 3, 0, "", [], [], [], [187, 188, 52]))]), (102, [(86, rw0 .dup), (87, rw0 (.aload_n 0)), (88, rwF (.getfield 22) 3 2 "FencedCode" [7] [252, 0]), (91, rw0 (.aload_n 0)), (92, rwF (.getfield 47) 5 2 "FencedCode" [7] [254, 0]), (95, rwC (.invokespecial 53) 2 "" [(0, sM_init)] [52, 190, 189]), (98, rwF (.putfield 56) 6 2 "FencedCode" [7] [255, 0]), (101, rw0 (.aload_n 0))]), (120, [(102, (.new 60, 6, 0, "", [], [], [], [231, 232, 53])), (105, rw0 .dup), (106, rw0 (.aload_n 0)), (107, rwF (.getfield 16) 1 2 "FencedCode" [7] [250, 0]), (110, rw0 (.aload_n 0)), (111, rwF (.getfield 47) 5 2 "FencedCode" [7] [254, 0]), (114, rwC (.invokespecial 62) 2 "" [(0, sT_init)] [53, 234, 233]), (117, rwF (.putfield 65) 7 2 "FencedCode" [7] [256, 0])]), (126, [(120, rw0 (.aload_n 0)), (121, rwL (.iconst 0) 0), (122, rwF (.putfield 69) 8 1 "FencedCode" [7] [257, 0]), (125, rw0 .return_)])]
set_option maxRecDepth 100000 in
theorem cwX_init : am_cw sX_init ∈ am_gw := am_mem (i := 62) rfl rfl
set_option maxRecDepth 100000 in
theorem gdX_init : am_Good sX_init cdX_init := by decide +kernel
abbrev sX_encode : am_Sg := (yX10_encode, cX10_encode, 5, some .int, { frames := 4, cells := 0, slots := 0, locals := 89 })
def cdX_encode : am_Cd := [(13, [(0, rw0 (.iload_n 1)), (1, rw0 (.iload_n 2)), (2, rw0 (.iload_n 3)), (3, rw0 (.iload 4)), (5, rwC (.invokestatic 73) 4 "" [(0, sF_encodable)] [49, 282, 281]), (8, rwN (.ifCond .eq 14) 22), (11, rw0 (.iload_n 1)), (12, rw0 (.iload_n 2))]), (24, [(13, rw0 (.iload_n 3)), (14, rw0 (.iload 4)), (16, rwC (.invokestatic 79) 4 "" [(0, sF_pack)] [49, 145, 296]), (19, rwN (.goto 4) 23), (22, rwL (.iconst (-1)) (-1)), (23, rw0 .ireturn)])]
set_option maxRecDepth 100000 in
theorem cwX_encode : am_cw sX_encode ∈ am_gw := am_mem (i := 280) rfl rfl
set_option maxRecDepth 100000 in
theorem gdX_encode : am_Good sX_encode cdX_encode := by decide +kernel
abbrev sX_kind : am_Sg := (yX10_kind, cX10_kind, 2, some .int, { frames := 3, cells := 0, slots := 0, locals := 64 })
def cdX_kind : am_Cd := [(5, [(0, rw0 (.iload_n 1)), (1, rwC (.invokestatic 83) 1 "" [(0, sF_kindOf)] [49, 302, 301]), (4, rw0 .ireturn)])]
set_option maxRecDepth 100000 in
theorem cwX_kind : am_cw sX_kind ∈ am_gw := am_mem (i := 300) rfl rfl
set_option maxRecDepth 100000 in
theorem gdX_kind : am_Good sX_kind cdX_kind := by decide +kernel
abbrev sX_line : am_Sg := (yX10_line, cX10_line, 5, some .int, { frames := 4, cells := 0, slots := 0, locals := 89 })
def cdX_line : am_Cd := [(13, [(0, rw0 (.iload_n 1)), (1, rw0 (.iload_n 2)), (2, rw0 (.iload_n 3)), (3, rw0 (.iload 4)), (5, rwC (.invokestatic 87) 4 "" [(0, sP_allows)] [45, 333, 332]), (8, rwN (.ifCond .ne 5) 13), (11, rwL (.iconst (-1)) (-1)), (12, rw0 .ireturn)]), (28, [(13, rw0 (.aload_n 0)), (14, rwF (.getfield 10) 0 2 "FencedCode" [7] [249, 0]), (17, rw0 (.iload_n 1)), (18, rw0 (.iload_n 2)), (19, rw0 (.iload_n 3)), (20, rw0 (.iload 4)), (22, rwC (.invokevirtual 90) 4 "" [(4, sP_add)] [45, 344, 343, 345, 0, 0]), (25, rwN (.ifCond .eq 13) 38)]), (41, [(28, rw0 (.aload_n 0)), (29, rwF (.getfield 10) 0 2 "FencedCode" [7] [249, 0]), (32, rwF (.getfield 93) 6 0 "FencedCode$Program" [4] [84, 0]), (35, rwN (.goto 5) 40), (38, rwL (.bipush (-2)) (-2)), (40, rw0 .ireturn)])]
set_option maxRecDepth 100000 in
theorem cwX_line : am_cw sX_line ∈ am_gw := am_mem (i := 331) rfl rfl
set_option maxRecDepth 100000 in
theorem gdX_line : am_Good sX_line cdX_line := by decide +kernel
abbrev sX_clear : am_Sg := (yX10_clear, cX10_clear, 2, some .int, { frames := 0, cells := 0, slots := 0, locals := 0 })
def cdX_clear : am_Cd := [(16, [(0, rw0 (.aload_n 0)), (1, rwF (.getfield 10) 0 2 "FencedCode" [7] [249, 0]), (4, rwF (.getfield 93) 6 0 "FencedCode$Program" [4] [84, 0]), (7, rw0 (.istore_n 1)), (8, rw0 (.aload_n 0)), (9, rwF (.getfield 10) 0 2 "FencedCode" [7] [249, 0]), (12, rwL (.iconst 0) 0), (13, rwF (.putfield 93) 6 0 "FencedCode$Program" [4] [84, 0])]), (18, [(16, rw0 (.iload_n 1)), (17, rw0 .ireturn)])]
set_option maxRecDepth 100000 in
theorem cwX_clear : am_cw sX_clear ∈ am_gw := am_mem (i := 353) rfl rfl
set_option maxRecDepth 100000 in
theorem gdX_clear : am_Good sX_clear cdX_clear := by decide +kernel
abbrev sX_build : am_Sg := (yX10_build, cX10_build, 1, some .int, { frames := 5, cells := 0, slots := 0, locals := 120 })
def cdX_build : am_Cd := [(16, [(0, rw0 (.aload_n 0)), (1, rwF (.getfield 10) 0 2 "FencedCode" [7] [249, 0]), (4, rwC (.invokevirtual 97) 0 "" [(4, sP_targetsExist)] [45, 359, 358, 360, 0, 0]), (7, rwN (.ifCond .ne 5) 12), (10, rwL (.iconst (-1)) (-1)), (11, rw0 .ireturn), (12, rw0 (.aload_n 0)), (13, rwF (.getfield 10) 0 2 "FencedCode" [7] [249, 0])]), (33, [(16, rwC (.invokestatic 101) 1 "" [(0, sL_place)] [55, 379, 378]), (19, rwL (.sipush 256) 256), (22, rwN (.if_icmp .le 6) 28), (25, rwL (.bipush (-2)) (-2)), (27, rw0 .ireturn), (28, rw0 (.aload_n 0)), (29, rwF (.getfield 16) 1 2 "FencedCode" [7] [250, 0]), (32, rw0 (.aload_n 0))]), (51, [(33, rwF (.getfield 10) 0 2 "FencedCode" [7] [249, 0]), (36, rwC (.invokevirtual 107) 1 "" [(4, sP_copyFrom)] [45, 409, 408, 410, 0, 0]), (39, rw0 (.aload_n 0)), (40, rwL (.iconst 1) 1), (41, rwF (.putfield 69) 8 1 "FencedCode" [7] [257, 0]), (44, rw0 (.aload_n 0)), (45, rwF (.getfield 31) 2 2 "FencedCode" [7] [251, 0]), (48, rwC (.invokevirtual 111) 0 "" [(5, sR_writeAll)] [47, 416, 415, 417, 0, 0])]), (59, [(51, rw0 (.aload_n 0)), (52, rwF (.getfield 22) 3 2 "FencedCode" [7] [252, 0]), (55, rwF (.getfield 114) 1 0 "FencedCode$Code" [1] [116, 0]), (58, rw0 .ireturn)])]
set_option maxRecDepth 100000 in
theorem cwX_build : am_cw sX_build ∈ am_gw := am_mem (i := 357) rfl rfl
set_option maxRecDepth 100000 in
theorem gdX_build : am_Good sX_build cdX_build := by decide +kernel
abbrev sX_address : am_Sg := (yX10_address, cX10_address, 2, some .int, { frames := 2, cells := 0, slots := 0, locals := 43 })
def cdX_address : am_Cd := [(18, [(0, rw0 (.aload_n 0)), (1, rwF (.getfield 69) 8 1 "FencedCode" [7] [257, 0]), (4, rwN (.ifCond .eq 14) 18), (7, rw0 (.aload_n 0)), (8, rwF (.getfield 16) 1 2 "FencedCode" [7] [250, 0]), (11, rw0 (.iload_n 1)), (12, rwC (.invokevirtual 115) 1 "" [(4, sP_addressOf)] [45, 425, 465, 426, 0, 0]), (15, rwN (.goto 4) 19)]), (20, [(18, rwL (.iconst (-1)) (-1)), (19, rw0 .ireturn)])]
set_option maxRecDepth 100000 in
theorem cwX_address : am_cw sX_address ∈ am_gw := am_mem (i := 464) rfl rfl
set_option maxRecDepth 100000 in
theorem gdX_address : am_Good sX_address cdX_address := by decide +kernel
abbrev sX_length : am_Sg := (yX10_length, cX10_length, 2, some .boolean, { frames := 2, cells := 0, slots := 0, locals := 44 })
def cdX_length : am_Cd := [(9, [(0, rw0 (.aload_n 0)), (1, rwF (.getfield 22) 3 2 "FencedCode" [7] [252, 0]), (4, rw0 (.iload_n 1)), (5, rwC (.invokevirtual 118) 1 "" [(1, sC_resize)] [46, 420, 470, 421, 0, 0]), (8, rw0 .ireturn)])]
set_option maxRecDepth 100000 in
theorem cwX_length : am_cw sX_length ∈ am_gw := am_mem (i := 469) rfl rfl
set_option maxRecDepth 100000 in
theorem gdX_length : am_Good sX_length cdX_length := by decide +kernel
abbrev sX_poke : am_Sg := (yX10_poke, cX10_poke, 3, some .boolean, { frames := 2, cells := 0, slots := 0, locals := 44 })
def cdX_poke : am_Cd := [(10, [(0, rw0 (.aload_n 0)), (1, rwF (.getfield 22) 3 2 "FencedCode" [7] [252, 0]), (4, rw0 (.iload_n 1)), (5, rw0 (.iload_n 2)), (6, rwC (.invokevirtual 122) 2 "" [(1, sC_put)] [46, 442, 475, 443, 0, 0]), (9, rw0 .ireturn)])]
set_option maxRecDepth 100000 in
theorem cwX_poke : am_cw sX_poke ∈ am_gw := am_mem (i := 474) rfl rfl
set_option maxRecDepth 100000 in
theorem gdX_poke : am_Good sX_poke cdX_poke := by decide +kernel
abbrev sX_peek : am_Sg := (yX10_peek, cX10_peek, 2, some .int, { frames := 2, cells := 0, slots := 0, locals := 42 })
def cdX_peek : am_Cd := [(16, [(0, rw0 (.iload_n 1)), (1, rwL (.iconst (-1)) (-1)), (2, rwN (.if_icmp .ne 13) 15), (5, rw0 (.aload_n 0)), (6, rwF (.getfield 22) 3 2 "FencedCode" [7] [252, 0]), (9, rwF (.getfield 114) 1 0 "FencedCode$Code" [1] [116, 0]), (12, rwN (.goto 11) 23), (15, rw0 (.aload_n 0))]), (24, [(16, rwF (.getfield 22) 3 2 "FencedCode" [7] [252, 0]), (19, rw0 (.iload_n 1)), (20, rwC (.invokevirtual 126) 1 "" [(1, sC_byteAt)] [46, 481, 480, 482, 0, 0]), (23, rw0 .ireturn)])]
set_option maxRecDepth 100000 in
theorem cwX_peek : am_cw sX_peek ∈ am_gw := am_mem (i := 479) rfl rfl
set_option maxRecDepth 100000 in
theorem gdX_peek : am_Good sX_peek cdX_peek := by decide +kernel
abbrev sX_check : am_Sg := (yX10_check, cX10_check, 1, some .int, { frames := 8, cells := 0, slots := 0, locals := 175 })
def cdX_check : am_Cd := [(8, [(0, rw0 (.aload_n 0)), (1, rwF (.getfield 40) 4 2 "FencedCode" [7] [253, 0]), (4, rwC (.invokevirtual 129) 0 "" [(0, sK_firstWrong)] [48, 489, 488, 490, 0, 0]), (7, rw0 .ireturn)])]
set_option maxRecDepth 100000 in
theorem cwX_check : am_cw sX_check ∈ am_gw := am_mem (i := 487) rfl rfl
set_option maxRecDepth 100000 in
theorem gdX_check : am_Good sX_check cdX_check := by decide +kernel
abbrev sX_input : am_Sg := (yX10_input, cX10_input, 2, some .int, { frames := 1, cells := 0, slots := 0, locals := 21 })
def cdX_input : am_Cd := [(18, [(0, rw0 (.aload_n 0)), (1, rwF (.getfield 47) 5 2 "FencedCode" [7] [254, 0]), (4, rw0 (.iload_n 1)), (5, rwC (.invokevirtual 133) 1 "" [(2, sI_add)] [50, 560, 559, 561, 0, 0]), (8, rwN (.ifCond .eq 13) 21), (11, rw0 (.aload_n 0)), (12, rwF (.getfield 47) 5 2 "FencedCode" [7] [254, 0]), (15, rwF (.getfield 135) 1 0 "FencedCode$Inputs" [2] [181, 0])]), (24, [(18, rwN (.goto 5) 23), (21, rwL (.bipush (-2)) (-2)), (23, rw0 .ireturn)])]
set_option maxRecDepth 100000 in
theorem cwX_input : am_cw sX_input ∈ am_gw := am_mem (i := 558) rfl rfl
set_option maxRecDepth 100000 in
theorem gdX_input : am_Good sX_input cdX_input := by decide +kernel
abbrev sX_run : am_Sg := (yX10_run, cX10_run, 2, some .int, { frames := 6, cells := 0, slots := 0, locals := 137 })
def cdX_run : am_Cd := [(16, [(0, rw0 (.iload_n 1)), (1, rwL (.iconst 0) 0), (2, rwL (.sipush 2000) 2000), (5, rwC (.invokestatic 136) 3 "" [(0, sX_within)] [44, 285, 567]), (8, rwN (.ifCond .eq 14) 22), (11, rw0 (.aload_n 0)), (12, rwF (.getfield 56) 6 2 "FencedCode" [7] [255, 0]), (15, rw0 (.iload_n 1))]), (24, [(16, rwC (.invokevirtual 140) 1 "FencedCode$Machine" [(3, sU_go)] [51, 572, 568, 571, 569, 570]), (19, rwN (.goto 4) 23), (22, rwL (.iconst (-1)) (-1)), (23, rw0 .ireturn)])]
set_option maxRecDepth 100000 in
theorem cwX_run : am_cw sX_run ∈ am_gw := am_mem (i := 566) rfl rfl
set_option maxRecDepth 100000 in
theorem gdX_run : am_Good sX_run cdX_run := by decide +kernel
abbrev sX_trial : am_Sg := (yX10_trial, cX10_trial, 2, some .int, { frames := 6, cells := 0, slots := 0, locals := 137 })
def cdX_trial : am_Cd := [(16, [(0, rw0 (.iload_n 1)), (1, rwL (.iconst 0) 0), (2, rwL (.sipush 2000) 2000), (5, rwC (.invokestatic 136) 3 "" [(0, sX_within)] [44, 285, 567]), (8, rwN (.ifCond .eq 14) 22), (11, rw0 (.aload_n 0)), (12, rwF (.getfield 65) 7 2 "FencedCode" [7] [256, 0]), (15, rw0 (.iload_n 1))]), (24, [(16, rwC (.invokevirtual 143) 1 "FencedCode$Trial" [(6, sU_go)] [51, 572, 701, 703, 702, 570]), (19, rwN (.goto 4) 23), (22, rwL (.iconst (-1)) (-1)), (23, rw0 .ireturn)])]
set_option maxRecDepth 100000 in
theorem cwX_trial : am_cw sX_trial ∈ am_gw := am_mem (i := 700) rfl rfl
set_option maxRecDepth 100000 in
theorem gdX_trial : am_Good sX_trial cdX_trial := by decide +kernel
abbrev sX_runnerOf : am_Sg := (yX10_runnerOf, cX10_runnerOf, 2, some (.object "FencedCode$Runner"), { frames := 0, cells := 0, slots := 0, locals := 0 })
def cdX_runnerOf : am_Cd := [(14, [(0, rw0 (.iload_n 1)), (1, rwN (.ifCond .ne 8) 9), (4, rw0 (.aload_n 0)), (5, rwF (.getfield 56) 6 2 "FencedCode" [7] [255, 0]), (8, rw0 .areturn), (9, rw0 (.iload_n 1)), (10, rwL (.iconst 1) 1), (11, rwN (.if_icmp .ne 10) 21)]), (23, [(14, rw0 (.aload_n 0)), (15, rwF (.getfield 65) 7 2 "FencedCode" [7] [256, 0]), (18, rwN (.goto 4) 22), (21, rw0 .aconst_null), (22, rw0 .areturn)])]
set_option maxRecDepth 100000 in
theorem cwX_runnerOf : am_cw sX_runnerOf ∈ am_gw := am_mem (i := 711) rfl rfl
set_option maxRecDepth 100000 in
theorem gdX_runnerOf : am_Good sX_runnerOf cdX_runnerOf := by decide +kernel
abbrev sX_state : am_Sg := (yX10_state, cX10_state, 4, some .int, { frames := 1, cells := 0, slots := 0, locals := 21 })
def cdX_state : am_Cd := [(12, [(0, rw0 (.aload_n 0)), (1, rw0 (.iload_n 1)), (2, rwC (.invokevirtual 144) 1 "" [(7, sX_runnerOf)] [44, 710, 708, 17, 0, 0]), (5, rw0 (.astore_n 3)), (6, rw0 (.aload_n 3)), (7, rwN (.ifnonnull 5) 12), (10, rwL (.iconst (-1)) (-1)), (11, rw0 .ireturn)]), (50, [(12, rw0 (.iload_n 2)), (13, rwS (.tableswitch 42 0 2 #[27, 32, 37]) 55 [(0, 40), (1, 45), (2, 50)]), (40, rw0 (.aload_n 3)), (41, rwF (.getfield 148) 6 0 "FencedCode$Runner" [3, 6] [205, 0]), (44, rw0 .ireturn), (45, rw0 (.aload_n 3)), (46, rwF (.getfield 153) 7 0 "FencedCode$Runner" [3, 6] [211, 0]), (49, rw0 .ireturn)]), (57, [(50, rw0 (.aload_n 3)), (51, rwF (.getfield 155) 5 0 "FencedCode$Runner" [3, 6] [203, 0]), (54, rw0 .ireturn), (55, rwL (.iconst (-1)) (-1)), (56, rw0 .ireturn)])]
set_option maxRecDepth 100000 in
theorem cwX_state : am_cw sX_state ∈ am_gw := am_mem (i := 707) rfl rfl
set_option maxRecDepth 100000 in
theorem gdX_state : am_Good sX_state cdX_state := by decide +kernel
abbrev sX_output : am_Sg := (yX10_output, cX10_output, 4, some .int, { frames := 1, cells := 0, slots := 0, locals := 21 })
def cdX_output : am_Cd := [(14, [(0, rw0 (.aload_n 0)), (1, rw0 (.iload_n 1)), (2, rwC (.invokevirtual 144) 1 "" [(7, sX_runnerOf)] [44, 710, 708, 17, 0, 0]), (5, rw0 (.astore_n 3)), (6, rw0 (.aload_n 3)), (7, rwN (.ifnonnull 7) 14), (10, rwL (.iconst 0) 0), (11, rwN (.goto 8) 19)]), (20, [(14, rw0 (.aload_n 3)), (15, rw0 (.iload_n 2)), (16, rwC (.invokevirtual 158) 1 "" [(3, sU_outputAt), (6, sU_outputAt)] [51, 717, 716, 719, 0, 0, 51, 717, 716, 720, 0, 0]), (19, rw0 .ireturn)])]
set_option maxRecDepth 100000 in
theorem cwX_output : am_cw sX_output ∈ am_gw := am_mem (i := 715) rfl rfl
set_option maxRecDepth 100000 in
theorem gdX_output : am_Good sX_output cdX_output := by decide +kernel
abbrev sX_register : am_Sg := (yX10_register, cX10_register, 4, some .int, { frames := 1, cells := 0, slots := 0, locals := 21 })
def cdX_register : am_Cd := [(14, [(0, rw0 (.aload_n 0)), (1, rw0 (.iload_n 1)), (2, rwC (.invokevirtual 144) 1 "" [(7, sX_runnerOf)] [44, 710, 708, 17, 0, 0]), (5, rw0 (.astore_n 3)), (6, rw0 (.aload_n 3)), (7, rwN (.ifnonnull 7) 14), (10, rwL (.iconst 0) 0), (11, rwN (.goto 8) 19)]), (20, [(14, rw0 (.aload_n 3)), (15, rw0 (.iload_n 2)), (16, rwC (.invokevirtual 161) 1 "" [(3, sU_get), (6, sU_get)] [51, 618, 726, 1061, 0, 0, 51, 618, 726, 1062, 0, 0]), (19, rw0 .ireturn)])]
set_option maxRecDepth 100000 in
theorem cwX_register : am_cw sX_register ∈ am_gw := am_mem (i := 725) rfl rfl
set_option maxRecDepth 100000 in
theorem gdX_register : am_Good sX_register cdX_register := by decide +kernel
abbrev sX_word : am_Sg := (yX10_word, cX10_word, 4, some .int, { frames := 1, cells := 0, slots := 0, locals := 21 })
def cdX_word : am_Cd := [(14, [(0, rw0 (.aload_n 0)), (1, rw0 (.iload_n 1)), (2, rwC (.invokevirtual 144) 1 "" [(7, sX_runnerOf)] [44, 710, 708, 17, 0, 0]), (5, rw0 (.astore_n 3)), (6, rw0 (.aload_n 3)), (7, rwN (.ifnonnull 7) 14), (10, rwL (.iconst 0) 0), (11, rwN (.goto 8) 19)]), (20, [(14, rw0 (.aload_n 3)), (15, rw0 (.iload_n 2)), (16, rwC (.invokevirtual 164) 1 "" [(3, sU_wordAt), (6, sU_wordAt)] [51, 732, 731, 734, 0, 0, 51, 732, 731, 735, 0, 0]), (19, rw0 .ireturn)])]
set_option maxRecDepth 100000 in
theorem cwX_word : am_cw sX_word ∈ am_gw := am_mem (i := 730) rfl rfl
set_option maxRecDepth 100000 in
theorem gdX_word : am_Good sX_word cdX_word := by decide +kernel
end
section
abbrev sZ_init : am_Sg := (yX11_init, cX11_init, 1, none, { frames := 1, cells := 21, slots := 939, locals := 20 })
def cdZ_init : am_Cd := [(15, [(0, rw0 (.aload_n 0)), (1, rwC (.invokespecial 1) 0 "" [] [742, 64, 65]), (4, rw0 (.aload_n 0)), (5, rwL (.bipush 20) 20), (7, (.newarray .int, 20, 20, "", [], [], [], [105])), (9, rwF (.putfield 7) 1 2 "FencedCodeModel" [8] [744, 0]), (12, rw0 (.aload_n 0)), (13, rwL (.bipush 20) 20)]), (31, [(15, (.newarray .int, 20, 20, "", [], [], [], [105])), (17, rwF (.putfield 13) 2 2 "FencedCodeModel" [8] [745, 0]), (20, rw0 (.aload_n 0)), (21, rwL (.bipush 20) 20), (23, (.newarray .int, 20, 20, "", [], [], [], [105])), (25, rwF (.putfield 16) 3 2 "FencedCodeModel" [8] [746, 0]), (28, rw0 (.aload_n 0)), (29, rwL (.bipush 20) 20)]), (47, [(31, (.newarray .int, 20, 20, "", [], [], [], [105])), (33, rwF (.putfield 19) 4 2 "FencedCodeModel" [8] [747, 0]), (36, rw0 (.aload_n 0)), (37, rwL (.bipush 20) 20), (39, (.newarray .int, 20, 20, "", [], [], [], [105])), (41, rwF (.putfield 22) 7 2 "FencedCodeModel" [8] [750, 0]), (44, rw0 (.aload_n 0)), (45, rwL (.bipush 20) 20)]), (63, [(47, (.newarray .int, 20, 20, "", [], [], [], [105])), (49, rwF (.putfield 25) 8 2 "FencedCodeModel" [8] [751, 0]), (52, rw0 (.aload_n 0)), (53, rwL (.bipush 20) 20), (55, (.newarray .int, 20, 20, "", [], [], [], [105])), (57, rwF (.putfield 28) 9 2 "FencedCodeModel" [8] [752, 0]), (60, rw0 (.aload_n 0)), (61, rwL (.bipush 20) 20)]), (79, [(63, (.newarray .int, 20, 20, "", [], [], [], [105])), (65, rwF (.putfield 31) 10 2 "FencedCodeModel" [8] [753, 0]), (68, rw0 (.aload_n 0)), (69, rwL (.bipush 21) 21), (71, (.newarray .int, 21, 21, "", [], [], [], [105])), (73, rwF (.putfield 34) 11 2 "FencedCodeModel" [8] [754, 0]), (76, rw0 (.aload_n 0)), (77, rwL (.bipush 21) 21)]), (96, [(79, (.newarray .int, 21, 21, "", [], [], [], [105])), (81, rwF (.putfield 37) 12 2 "FencedCodeModel" [8] [755, 0]), (84, rw0 (.aload_n 0)), (85, rwL (.bipush 21) 21), (87, (.newarray .int, 21, 21, "", [], [], [], [105])), (89, rwF (.putfield 40) 13 2 "FencedCodeModel" [8] [756, 0]), (92, rw0 (.aload_n 0)), (93, rwL (.sipush 256) 256)]), (113, [(96, (.newarray .int, 256, 256, "", [], [], [], [105])), (98, rwF (.putfield 43) 15 2 "FencedCodeModel" [8] [758, 0]), (101, rw0 (.aload_n 0)), (102, rwL (.sipush 256) 256), (105, (.newarray .boolean, 256, 256, "", [], [], [], [828])), (107, rwF (.putfield 46) 16 2 "FencedCodeModel" [8] [759, 0]), (110, rw0 (.aload_n 0)), (111, rwL (.bipush 20) 20)]), (129, [(113, (.newarray .int, 20, 20, "", [], [], [], [105])), (115, rwF (.putfield 50) 19 2 "FencedCodeModel" [8] [762, 0]), (118, rw0 (.aload_n 0)), (119, rwL (.bipush 64) 64), (121, (.newarray .int, 64, 64, "", [], [], [], [105])), (123, rwF (.putfield 53) 20 2 "FencedCodeModel" [8] [763, 0]), (126, rw0 (.aload_n 0)), (127, rwL (.bipush 32) 32)]), (144, [(129, (.newarray .int, 32, 32, "", [], [], [], [105])), (131, rwF (.putfield 56) 21 2 "FencedCodeModel" [8] [764, 0]), (134, rw0 (.aload_n 0)), (135, rwL (.bipush 80) 80), (137, (.newarray .int, 80, 80, "", [], [], [], [105])), (139, rwF (.putfield 59) 22 2 "FencedCodeModel" [8] [765, 0]), (142, rw0 (.aload_n 0)), (143, rwL (.iconst 2) 2)]), (158, [(144, (.newarray .int, 2, 2, "", [], [], [], [105])), (146, rwF (.putfield 62) 23 2 "FencedCodeModel" [8] [766, 0]), (149, rw0 (.aload_n 0)), (150, rwL (.iconst 2) 2), (151, (.newarray .int, 2, 2, "", [], [], [], [105])), (153, rwF (.putfield 65) 24 2 "FencedCodeModel" [8] [767, 0]), (156, rw0 (.aload_n 0)), (157, rwL (.iconst 2) 2)]), (171, [(158, (.newarray .int, 2, 2, "", [], [], [], [105])), (160, rwF (.putfield 68) 25 2 "FencedCodeModel" [8] [768, 0]), (163, rw0 (.aload_n 0)), (164, rwL (.iconst 2) 2), (165, (.newarray .boolean, 2, 2, "", [], [], [], [828])), (167, rwF (.putfield 71) 26 2 "FencedCodeModel" [8] [769, 0]), (170, rw0 .return_)])]
set_option maxRecDepth 100000 in
theorem cwZ_init : am_cw sZ_init ∈ am_gw := am_mem (i := 741) rfl rfl
set_option maxRecDepth 100000 in
theorem gdZ_init : am_Good sZ_init cdZ_init := by decide +kernel
abbrev sZ_outside : am_Sg := (yX11_outside, cX11_outside, 3, some .boolean, { frames := 0, cells := 0, slots := 0, locals := 0 })
def cdZ_outside : am_Cd := [(14, [(0, rw0 (.iload_n 0)), (1, rw0 (.iload_n 1)), (2, rwN (.if_icmp .lt 8) 10), (5, rw0 (.iload_n 0)), (6, rw0 (.iload_n 2)), (7, rwN (.if_icmp .le 7) 14), (10, rwL (.iconst 1) 1), (11, rwN (.goto 4) 15)]), (16, [(14, rwL (.iconst 0) 0), (15, rw0 .ireturn)])]
set_option maxRecDepth 100000 in
theorem cwZ_outside : am_cw sZ_outside ∈ am_gw := am_mem (i := 835) rfl rfl
set_option maxRecDepth 100000 in
theorem gdZ_outside : am_Good sZ_outside cdZ_outside := by decide +kernel
abbrev sZ_notRegister : am_Sg := (yX11_notRegister, cX11_notRegister, 1, some .boolean, { frames := 0, cells := 0, slots := 0, locals := 0 })
def cdZ_notRegister : am_Cd := [(15, [(0, rw0 (.iload_n 0)), (1, rwN (.ifCond .lt 9) 10), (4, rw0 (.iload_n 0)), (5, rwL (.bipush 31) 31), (7, rwN (.if_icmp .le 7) 14), (10, rwL (.iconst 1) 1), (11, rwN (.goto 4) 15), (14, rwL (.iconst 0) 0)]), (16, [(15, rw0 .ireturn)])]
set_option maxRecDepth 100000 in
theorem cwZ_notRegister : am_cw sZ_notRegister ∈ am_gw := am_mem (i := 841) rfl rfl
set_option maxRecDepth 100000 in
theorem gdZ_notRegister : am_Good sZ_notRegister cdZ_notRegister := by decide +kernel
abbrev sZ_typeR : am_Sg := (yX11_typeR, cX11_typeR, 6, some .int, { frames := 0, cells := 0, slots := 0, locals := 0 })
def cdZ_typeR : am_Cd := [(10, [(0, rw0 (.iload_n 0)), (1, rwL (.bipush 25) 25), (3, rw0 .ishl), (4, rw0 (.iload_n 1)), (5, rwL (.bipush 20) 20), (7, rw0 .ishl), (8, rw0 .ior), (9, rw0 (.iload_n 2))]), (21, [(10, rwL (.bipush 15) 15), (12, rw0 .ishl), (13, rw0 .ior), (14, rw0 (.iload_n 3)), (15, rwL (.bipush 12) 12), (17, rw0 .ishl), (18, rw0 .ior), (19, rw0 (.iload 4))]), (29, [(21, rwL (.bipush 7) 7), (23, rw0 .ishl), (24, rw0 .ior), (25, rw0 (.iload 5)), (27, rw0 .ior), (28, rw0 .ireturn)])]
set_option maxRecDepth 100000 in
theorem cwZ_typeR : am_cw sZ_typeR ∈ am_gw := am_mem (i := 850) rfl rfl
set_option maxRecDepth 100000 in
theorem gdZ_typeR : am_Good sZ_typeR cdZ_typeR := by decide +kernel
abbrev sZ_typeI : am_Sg := (yX11_typeI, cX11_typeI, 5, some .int, { frames := 0, cells := 0, slots := 0, locals := 0 })
def cdZ_typeI : am_Cd := [(10, [(0, rw0 (.iload_n 0)), (1, rwL (.bipush 20) 20), (3, rw0 .ishl), (4, rw0 (.iload_n 1)), (5, rwL (.bipush 15) 15), (7, rw0 .ishl), (8, rw0 .ior), (9, rw0 (.iload_n 2))]), (21, [(10, rwL (.bipush 12) 12), (12, rw0 .ishl), (13, rw0 .ior), (14, rw0 (.iload_n 3)), (15, rwL (.bipush 7) 7), (17, rw0 .ishl), (18, rw0 .ior), (19, rw0 (.iload 4))]), (23, [(21, rw0 .ior), (22, rw0 .ireturn)])]
set_option maxRecDepth 100000 in
theorem cwZ_typeI : am_cw sZ_typeI ∈ am_gw := am_mem (i := 853) rfl rfl
set_option maxRecDepth 100000 in
theorem gdZ_typeI : am_Good sZ_typeI cdZ_typeI := by decide +kernel
abbrev sZ_branch : am_Sg := (yX11_branch, cX11_branch, 6, some .int, { frames := 1, cells := 0, slots := 0, locals := 25 })
def cdZ_branch : am_Cd := [(10, [(0, rw0 (.iload_n 3)), (1, rwL (.bipush 12) 12), (3, rw0 .ishr), (4, rwL (.iconst 1) 1), (5, rw0 .iand), (6, rwL (.bipush 6) 6), (8, rw0 .ishl), (9, rw0 (.iload_n 3))]), (21, [(10, rwL (.iconst 5) 5), (11, rw0 .ishr), (12, rwL (.bipush 63) 63), (14, rw0 .iand), (15, rw0 .ior), (16, rw0 (.istore 4)), (18, rw0 (.iload_n 3)), (19, rwL (.bipush 30) 30)]), (31, [(21, rw0 .iand), (22, rw0 (.iload_n 3)), (23, rwL (.bipush 11) 11), (25, rw0 .ishr), (26, rwL (.iconst 1) 1), (27, rw0 .iand), (28, rw0 .ior), (29, rw0 (.istore 5))]), (44, [(31, rw0 (.iload 4)), (33, rw0 (.iload_n 2)), (34, rw0 (.iload_n 1)), (35, rw0 (.iload_n 0)), (36, rw0 (.iload 5)), (38, rwL (.bipush 99) 99), (40, rwC (.invokestatic 74) 6 "" [(0, sZ_typeR)] [54, 849, 848]), (43, rw0 .ireturn)])]
set_option maxRecDepth 100000 in
theorem cwZ_branch : am_cw sZ_branch ∈ am_gw := am_mem (i := 856) rfl rfl
set_option maxRecDepth 100000 in
theorem gdZ_branch : am_Good sZ_branch cdZ_branch := by decide +kernel
abbrev sZ_jump : am_Sg := (yX11_jump, cX11_jump, 2, some .int, { frames := 0, cells := 0, slots := 0, locals := 0 })
def cdZ_jump : am_Cd := [(10, [(0, rw0 (.iload_n 1)), (1, rwL (.bipush 20) 20), (3, rw0 .ishr), (4, rwL (.iconst 1) 1), (5, rw0 .iand), (6, rwL (.bipush 31) 31), (8, rw0 .ishl), (9, rw0 (.iload_n 1))]), (21, [(10, rwL (.iconst 1) 1), (11, rw0 .ishr), (12, rwL (.sipush 1023) 1023), (15, rw0 .iand), (16, rwL (.bipush 21) 21), (18, rw0 .ishl), (19, rw0 .ior), (20, rw0 (.iload_n 1))]), (31, [(21, rwL (.bipush 11) 11), (23, rw0 .ishr), (24, rwL (.iconst 1) 1), (25, rw0 .iand), (26, rwL (.bipush 20) 20), (28, rw0 .ishl), (29, rw0 .ior), (30, rw0 (.iload_n 1))]), (43, [(31, rwL (.bipush 12) 12), (33, rw0 .ishr), (34, rwL (.sipush 255) 255), (37, rw0 .iand), (38, rwL (.bipush 12) 12), (40, rw0 .ishl), (41, rw0 .ior), (42, rw0 (.iload_n 0))]), (51, [(43, rwL (.bipush 7) 7), (45, rw0 .ishl), (46, rw0 .ior), (47, rwL (.bipush 111) 111), (49, rw0 .ior), (50, rw0 .ireturn)])]
set_option maxRecDepth 100000 in
theorem cwZ_jump : am_cw sZ_jump ∈ am_gw := am_mem (i := 859) rfl rfl
set_option maxRecDepth 100000 in
theorem gdZ_jump : am_Good sZ_jump cdZ_jump := by decide +kernel
abbrev sZ_fits : am_Sg := (yX11_fits, cX11_fits, 4, some .boolean, { frames := 1, cells := 0, slots := 0, locals := 22 })
def cdZ_fits : am_Cd := [(85, [(0, rw0 (.iload_n 1)), (1, rwC (.invokestatic 78) 1 "" [(0, sZ_notRegister)] [54, 840, 839]), (4, rwN (.ifCond .eq 5) 9), (7, rwL (.iconst 0) 0), (8, rw0 .ireturn), (9, rw0 (.iload_n 0)), (10, rwS (.tableswitch 245 0 14 #[74, 74, 74, 74, 94, 120, 94, 94, 136, 136, 136, 168, 94, 191, 224]) 255 [(0, 84), (1, 84), (2, 84), (3, 84), (4, 104), (5, 130), (6, 104), (7, 104), (8, 146), (9, 146), (10, 146), (11, 178), (12, 104), (13, 201), (14, 234)]), (84, rw0 (.iload_n 2))]), (103, [(85, rwC (.invokestatic 78) 1 "" [(0, sZ_notRegister)] [54, 840, 839]), (88, rwN (.ifCond .ne 14) 102), (91, rw0 (.iload_n 3)), (92, rwC (.invokestatic 78) 1 "" [(0, sZ_notRegister)] [54, 840, 839]), (95, rwN (.ifCond .ne 7) 102), (98, rwL (.iconst 1) 1), (99, rwN (.goto 4) 103), (102, rwL (.iconst 0) 0)]), (121, [(103, rw0 .ireturn), (104, rw0 (.iload_n 2)), (105, rwC (.invokestatic 78) 1 "" [(0, sZ_notRegister)] [54, 840, 839]), (108, rwN (.ifCond .ne 20) 128), (111, rw0 (.iload_n 3)), (112, rwL (.sipush (-2048)) (-2048)), (115, rwL (.sipush 2047) 2047), (118, rwC (.invokestatic 82) 3 "" [(0, sZ_outside)] [54, 834, 833])]), (134, [(121, rwN (.ifCond .ne 7) 128), (124, rwL (.iconst 1) 1), (125, rwN (.goto 4) 129), (128, rwL (.iconst 0) 0), (129, rw0 .ireturn), (130, rw0 (.iload_n 2)), (131, rwL (.iconst 0) 0), (132, rwP (.ldc 86) 1048575 [842])]), (150, [(134, rwC (.invokestatic 82) 3 "" [(0, sZ_outside)] [54, 834, 833]), (137, rwN (.ifCond .ne 7) 144), (140, rwL (.iconst 1) 1), (141, rwN (.goto 4) 145), (144, rwL (.iconst 0) 0), (145, rw0 .ireturn), (146, rw0 (.iload_n 2)), (147, rwC (.invokestatic 78) 1 "" [(0, sZ_notRegister)] [54, 840, 839])]), (168, [(150, rwN (.ifCond .ne 26) 176), (153, rw0 (.iload_n 3)), (154, rwL (.sipush (-4096)) (-4096)), (157, rwL (.sipush 4094) 4094), (160, rwC (.invokestatic 82) 3 "" [(0, sZ_outside)] [54, 834, 833]), (163, rwN (.ifCond .ne 13) 176), (166, rw0 (.iload_n 3)), (167, rwL (.iconst 2) 2)]), (181, [(168, rw0 .irem), (169, rwN (.ifCond .ne 7) 176), (172, rwL (.iconst 1) 1), (173, rwN (.goto 4) 177), (176, rwL (.iconst 0) 0), (177, rw0 .ireturn), (178, rw0 (.iload_n 2)), (179, rwP (.ldc 87) (-1048576) [843])]), (196, [(181, rwP (.ldc 88) 1048574 [844]), (183, rwC (.invokestatic 82) 3 "" [(0, sZ_outside)] [54, 834, 833]), (186, rwN (.ifCond .ne 13) 199), (189, rw0 (.iload_n 2)), (190, rwL (.iconst 2) 2), (191, rw0 .irem), (192, rwN (.ifCond .ne 7) 199), (195, rwL (.iconst 1) 1)]), (210, [(196, rwN (.goto 4) 200), (199, rwL (.iconst 0) 0), (200, rw0 .ireturn), (201, rw0 (.iload_n 1)), (202, rwN (.ifCond .ne 7) 209), (205, rw0 (.iload_n 2)), (206, rwN (.ifCond .eq 22) 228), (209, rw0 (.iload_n 1))]), (228, [(210, rwN (.ifCond .eq 22) 232), (213, rw0 (.iload_n 2)), (214, rwN (.ifCond .eq 18) 232), (217, rw0 (.iload_n 2)), (218, rwL (.bipush (-32)) (-32)), (220, rwL (.bipush 31) 31), (222, rwC (.invokestatic 82) 3 "" [(0, sZ_outside)] [54, 834, 833]), (225, rwN (.ifCond .ne 7) 232)]), (242, [(228, rwL (.iconst 1) 1), (229, rwN (.goto 4) 233), (232, rwL (.iconst 0) 0), (233, rw0 .ireturn), (234, rw0 (.iload_n 1)), (235, rwN (.ifCond .eq 18) 253), (238, rw0 (.iload_n 2)), (239, rwN (.ifCond .eq 14) 253)]), (256, [(242, rw0 (.iload_n 2)), (243, rwC (.invokestatic 78) 1 "" [(0, sZ_notRegister)] [54, 840, 839]), (246, rwN (.ifCond .ne 7) 253), (249, rwL (.iconst 1) 1), (250, rwN (.goto 4) 254), (253, rwL (.iconst 0) 0), (254, rw0 .ireturn), (255, rwL (.iconst 0) 0)]), (257, [(256, rw0 .ireturn)])]
set_option maxRecDepth 100000 in
theorem cwZ_fits : am_cw sZ_fits ∈ am_gw := am_mem (i := 838) rfl rfl
set_option maxRecDepth 100000 in
theorem gdZ_fits : am_Good sZ_fits cdZ_fits := by decide +kernel
abbrev sZ_made : am_Sg := (yX11_made, cX11_made, 4, some .int, { frames := 2, cells := 0, slots := 0, locals := 50 })
def cdZ_made : am_Cd := [(79, [(0, rw0 (.iload_n 0)), (1, rwS (.tableswitch 232 0 13 #[71, 82, 94, 106, 118, 128, 141, 150, 169, 177, 185, 193, 199, 209]) 233 [(0, 72), (1, 83), (2, 95), (3, 107), (4, 119), (5, 129), (6, 142), (7, 151), (8, 170), (9, 178), (10, 186), (11, 194), (12, 200), (13, 210)]), (72, rwL (.iconst 0) 0), (73, rw0 (.iload_n 3)), (74, rw0 (.iload_n 2)), (75, rwL (.iconst 0) 0), (76, rw0 (.iload_n 1)), (77, rwL (.bipush 51) 51)]), (91, [(79, rwC (.invokestatic 74) 6 "" [(0, sZ_typeR)] [54, 849, 848]), (82, rw0 .ireturn), (83, rwL (.bipush 32) 32), (85, rw0 (.iload_n 3)), (86, rw0 (.iload_n 2)), (87, rwL (.iconst 0) 0), (88, rw0 (.iload_n 1)), (89, rwL (.bipush 51) 51)]), (103, [(91, rwC (.invokestatic 74) 6 "" [(0, sZ_typeR)] [54, 849, 848]), (94, rw0 .ireturn), (95, rwL (.iconst 0) 0), (96, rw0 (.iload_n 3)), (97, rw0 (.iload_n 2)), (98, rwL (.bipush 7) 7), (100, rw0 (.iload_n 1)), (101, rwL (.bipush 51) 51)]), (115, [(103, rwC (.invokestatic 74) 6 "" [(0, sZ_typeR)] [54, 849, 848]), (106, rw0 .ireturn), (107, rwL (.iconst 0) 0), (108, rw0 (.iload_n 3)), (109, rw0 (.iload_n 2)), (110, rwL (.bipush 6) 6), (112, rw0 (.iload_n 1)), (113, rwL (.bipush 51) 51)]), (128, [(115, rwC (.invokestatic 74) 6 "" [(0, sZ_typeR)] [54, 849, 848]), (118, rw0 .ireturn), (119, rw0 (.iload_n 3)), (120, rw0 (.iload_n 2)), (121, rwL (.iconst 0) 0), (122, rw0 (.iload_n 1)), (123, rwL (.bipush 19) 19), (125, rwC (.invokestatic 89) 5 "" [(0, sZ_typeI)] [54, 852, 851])]), (138, [(128, rw0 .ireturn), (129, rw0 (.iload_n 2)), (130, rwL (.bipush 12) 12), (132, rw0 .ishl), (133, rw0 (.iload_n 1)), (134, rwL (.bipush 7) 7), (136, rw0 .ishl), (137, rw0 .ior)]), (147, [(138, rwL (.bipush 55) 55), (140, rw0 .ior), (141, rw0 .ireturn), (142, rw0 (.iload_n 3)), (143, rw0 (.iload_n 2)), (144, rwL (.iconst 2) 2), (145, rw0 (.iload_n 1)), (146, rwL (.iconst 3) 3)]), (158, [(147, rwC (.invokestatic 89) 5 "" [(0, sZ_typeI)] [54, 852, 851]), (150, rw0 .ireturn), (151, rw0 (.iload_n 3)), (152, rwL (.iconst 5) 5), (153, rw0 .ishr), (154, rwL (.bipush 127) 127), (156, rw0 .iand), (157, rw0 (.iload_n 1))]), (170, [(158, rw0 (.iload_n 2)), (159, rwL (.iconst 2) 2), (160, rw0 (.iload_n 3)), (161, rwL (.bipush 31) 31), (163, rw0 .iand), (164, rwL (.bipush 35) 35), (166, rwC (.invokestatic 74) 6 "" [(0, sZ_typeR)] [54, 849, 848]), (169, rw0 .ireturn)]), (180, [(170, rwL (.iconst 0) 0), (171, rw0 (.iload_n 1)), (172, rw0 (.iload_n 2)), (173, rw0 (.iload_n 3)), (174, rwC (.invokestatic 93) 4 "" [(0, sZ_branch)] [54, 855, 854]), (177, rw0 .ireturn), (178, rwL (.iconst 1) 1), (179, rw0 (.iload_n 1))]), (190, [(180, rw0 (.iload_n 2)), (181, rw0 (.iload_n 3)), (182, rwC (.invokestatic 93) 4 "" [(0, sZ_branch)] [54, 855, 854]), (185, rw0 .ireturn), (186, rwL (.iconst 4) 4), (187, rw0 (.iload_n 1)), (188, rw0 (.iload_n 2)), (189, rw0 (.iload_n 3))]), (202, [(190, rwC (.invokestatic 93) 4 "" [(0, sZ_branch)] [54, 855, 854]), (193, rw0 .ireturn), (194, rw0 (.iload_n 1)), (195, rw0 (.iload_n 2)), (196, rwC (.invokestatic 97) 2 "" [(0, sZ_jump)] [54, 858, 857]), (199, rw0 .ireturn), (200, rw0 (.iload_n 3)), (201, rw0 (.iload_n 2))]), (213, [(202, rwL (.iconst 0) 0), (203, rw0 (.iload_n 1)), (204, rwL (.bipush 103) 103), (206, rwC (.invokestatic 89) 5 "" [(0, sZ_typeI)] [54, 852, 851]), (209, rw0 .ireturn), (210, rw0 (.iload_n 2)), (211, rwL (.iconst 5) 5), (212, rw0 .ishr)]), (223, [(213, rwL (.iconst 1) 1), (214, rw0 .iand), (215, rwL (.bipush 12) 12), (217, rw0 .ishl), (218, rw0 (.iload_n 1)), (219, rwL (.bipush 7) 7), (221, rw0 .ishl), (222, rw0 .ior)]), (232, [(223, rw0 (.iload_n 2)), (224, rwL (.bipush 31) 31), (226, rw0 .iand), (227, rwL (.iconst 2) 2), (228, rw0 .ishl), (229, rw0 .ior), (230, rwL (.iconst 1) 1), (231, rw0 .ior)]), (242, [(232, rw0 .ireturn), (233, rwP (.ldc 101) 32768 [860]), (235, rw0 (.iload_n 1)), (236, rwL (.bipush 7) 7), (238, rw0 .ishl), (239, rw0 .ior), (240, rw0 (.iload_n 2)), (241, rwL (.iconst 2) 2)]), (247, [(242, rw0 .ishl), (243, rw0 .ior), (244, rwL (.iconst 2) 2), (245, rw0 .ior), (246, rw0 .ireturn)])]
set_option maxRecDepth 100000 in
theorem cwZ_made : am_cw sZ_made ∈ am_gw := am_mem (i := 847) rfl rfl
set_option maxRecDepth 100000 in
theorem gdZ_made : am_Good sZ_made cdZ_made := by decide +kernel
abbrev sZ_encode : am_Sg := (yX11_encode, cX11_encode, 5, some .int, { frames := 3, cells := 0, slots := 0, locals := 73 })
def cdZ_encode : am_Cd := [(13, [(0, rw0 (.iload_n 1)), (1, rwL (.iconst 0) 0), (2, rwL (.bipush 14) 14), (4, rwC (.invokestatic 82) 3 "" [(0, sZ_outside)] [54, 834, 833]), (7, rwN (.ifCond .ne 14) 21), (10, rw0 (.iload_n 1)), (11, rw0 (.iload_n 2)), (12, rw0 (.iload_n 3))]), (28, [(13, rw0 (.iload 4)), (15, rwC (.invokestatic 102) 4 "" [(0, sZ_fits)] [54, 837, 836]), (18, rwN (.ifCond .ne 7) 25), (21, rwL (.iconst (-1)) (-1)), (22, rwN (.goto 11) 33), (25, rw0 (.iload_n 1)), (26, rw0 (.iload_n 2)), (27, rw0 (.iload_n 3))]), (34, [(28, rw0 (.iload 4)), (30, rwC (.invokestatic 106) 4 "" [(0, sZ_made)] [54, 846, 845]), (33, rw0 .ireturn)])]
set_option maxRecDepth 100000 in
theorem cwZ_encode : am_cw sZ_encode ∈ am_gw := am_mem (i := 832) rfl rfl
set_option maxRecDepth 100000 in
theorem gdZ_encode : am_Good sZ_encode cdZ_encode := by decide +kernel
abbrev sZ_fieldA : am_Sg := (yX11_fieldA, cX11_fieldA, 2, some .int, { frames := 0, cells := 0, slots := 0, locals := 0 })
def cdZ_fieldA : am_Cd := [(13, [(0, rw0 (.iload_n 0)), (1, rwL (.bipush 7) 7), (3, rwN (.if_icmp .ne 13) 16), (6, rw0 (.iload_n 1)), (7, rwL (.bipush 20) 20), (9, rw0 .ishr), (10, rwL (.bipush 31) 31), (12, rw0 .iand)]), (29, [(13, rwN (.goto 32) 45), (16, rw0 (.iload_n 0)), (17, rwL (.bipush 8) 8), (19, rwN (.if_icmp .lt 19) 38), (22, rw0 (.iload_n 0)), (23, rwL (.bipush 10) 10), (25, rwN (.if_icmp .gt 13) 38), (28, rw0 (.iload_n 1))]), (42, [(29, rwL (.bipush 15) 15), (31, rw0 .ishr), (32, rwL (.bipush 31) 31), (34, rw0 .iand), (35, rwN (.goto 10) 45), (38, rw0 (.iload_n 1)), (39, rwL (.bipush 7) 7), (41, rw0 .ishr)]), (46, [(42, rwL (.bipush 31) 31), (44, rw0 .iand), (45, rw0 .ireturn)])]
set_option maxRecDepth 100000 in
theorem cwZ_fieldA : am_cw sZ_fieldA ∈ am_gw := am_mem (i := 871) rfl rfl
set_option maxRecDepth 100000 in
theorem gdZ_fieldA : am_Good sZ_fieldA cdZ_fieldA := by decide +kernel
abbrev sZ_fieldB : am_Sg := (yX11_fieldB, cX11_fieldB, 3, some .int, { frames := 0, cells := 0, slots := 0, locals := 0 })
def cdZ_fieldB : am_Cd := [(11, [(0, rw0 (.iload_n 0)), (1, rwL (.iconst 5) 5), (2, rwN (.if_icmp .ne 8) 10), (5, rw0 (.iload_n 1)), (6, rwL (.bipush 12) 12), (8, rw0 .iushr), (9, rw0 .ireturn), (10, rw0 (.iload_n 0))]), (26, [(11, rwL (.bipush 8) 8), (13, rwN (.if_icmp .lt 17) 30), (16, rw0 (.iload_n 0)), (17, rwL (.bipush 10) 10), (19, rwN (.if_icmp .gt 11) 30), (22, rw0 (.iload_n 1)), (23, rwL (.bipush 20) 20), (25, rw0 .ishr)]), (39, [(26, rwL (.bipush 31) 31), (28, rw0 .iand), (29, rw0 .ireturn), (30, rw0 (.iload_n 0)), (31, rwL (.bipush 11) 11), (33, rwN (.if_icmp .ne 44) 77), (36, rw0 (.iload_n 1)), (37, rwL (.bipush 31) 31)]), (51, [(39, rw0 .ishr), (40, rwP (.ldc 109) 1048576 [875]), (42, rw0 .imul), (43, rw0 (.iload_n 1)), (44, rwL (.bipush 21) 21), (46, rw0 .ishr), (47, rwL (.sipush 1023) 1023), (50, rw0 .iand)]), (60, [(51, rwL (.iconst 1) 1), (52, rw0 .ishl), (53, rw0 .ior), (54, rw0 (.iload_n 1)), (55, rwL (.bipush 20) 20), (57, rw0 .ishr), (58, rwL (.iconst 1) 1), (59, rw0 .iand)]), (72, [(60, rwL (.bipush 11) 11), (62, rw0 .ishl), (63, rw0 .ior), (64, rw0 (.iload_n 1)), (65, rwL (.bipush 12) 12), (67, rw0 .ishr), (68, rwL (.sipush 255) 255), (71, rw0 .iand)]), (84, [(72, rwL (.bipush 12) 12), (74, rw0 .ishl), (75, rw0 .ior), (76, rw0 .ireturn), (77, rw0 (.iload_n 0)), (78, rwL (.bipush 13) 13), (80, rwN (.if_icmp .ne 34) 114), (83, rw0 (.iload_n 1))]), (93, [(84, rwL (.bipush 12) 12), (86, rw0 .ishr), (87, rwL (.iconst 1) 1), (88, rw0 .iand), (89, rwL (.iconst 5) 5), (90, rw0 .ishl), (91, rw0 (.iload_n 1)), (92, rwL (.iconst 2) 2)]), (105, [(93, rw0 .ishr), (94, rwL (.bipush 31) 31), (96, rw0 .iand), (97, rw0 .ior), (98, rw0 (.istore_n 2)), (99, rw0 (.iload_n 2)), (100, rwL (.bipush 31) 31), (102, rwN (.if_icmp .le 10) 112)]), (117, [(105, rw0 (.iload_n 2)), (106, rwL (.bipush 64) 64), (108, rw0 .isub), (109, rwN (.goto 4) 113), (112, rw0 (.iload_n 2)), (113, rw0 .ireturn), (114, rw0 (.iload_n 0)), (115, rwL (.bipush 14) 14)]), (130, [(117, rwN (.if_icmp .ne 12) 129), (120, rw0 (.iload_n 1)), (121, rwL (.iconst 2) 2), (122, rw0 .ishr), (123, rwL (.bipush 31) 31), (125, rw0 .iand), (126, rwN (.goto 10) 136), (129, rw0 (.iload_n 1))]), (137, [(130, rwL (.bipush 15) 15), (132, rw0 .ishr), (133, rwL (.bipush 31) 31), (135, rw0 .iand), (136, rw0 .ireturn)])]
set_option maxRecDepth 100000 in
theorem cwZ_fieldB : am_cw sZ_fieldB ∈ am_gw := am_mem (i := 874) rfl rfl
set_option maxRecDepth 100000 in
theorem gdZ_fieldB : am_Good sZ_fieldB cdZ_fieldB := by decide +kernel
abbrev sZ_fieldC : am_Sg := (yX11_fieldC, cX11_fieldC, 2, some .int, { frames := 0, cells := 0, slots := 0, locals := 0 })
def cdZ_fieldC : am_Cd := [(12, [(0, rw0 (.iload_n 0)), (1, rwL (.iconst 4) 4), (2, rwN (.if_icmp .ge 11) 13), (5, rw0 (.iload_n 1)), (6, rwL (.bipush 20) 20), (8, rw0 .ishr), (9, rwL (.bipush 31) 31), (11, rw0 .iand)]), (24, [(12, rw0 .ireturn), (13, rw0 (.iload_n 0)), (14, rwL (.bipush 7) 7), (16, rwN (.if_icmp .ne 18) 34), (19, rw0 (.iload_n 1)), (20, rwL (.bipush 25) 25), (22, rw0 .ishr), (23, rwL (.iconst 5) 5)]), (34, [(24, rw0 .ishl), (25, rw0 (.iload_n 1)), (26, rwL (.bipush 7) 7), (28, rw0 .ishr), (29, rwL (.bipush 31) 31), (31, rw0 .iand), (32, rw0 .ior), (33, rw0 .ireturn)]), (49, [(34, rw0 (.iload_n 0)), (35, rwL (.bipush 8) 8), (37, rwN (.if_icmp .lt 47) 84), (40, rw0 (.iload_n 0)), (41, rwL (.bipush 10) 10), (43, rwN (.if_icmp .gt 41) 84), (46, rw0 (.iload_n 1)), (47, rwL (.bipush 31) 31)]), (59, [(49, rw0 .ishr), (50, rwL (.bipush 12) 12), (52, rw0 .ishl), (53, rw0 (.iload_n 1)), (54, rwL (.bipush 7) 7), (56, rw0 .ishr), (57, rwL (.iconst 1) 1), (58, rw0 .iand)]), (70, [(59, rwL (.bipush 11) 11), (61, rw0 .ishl), (62, rw0 .ior), (63, rw0 (.iload_n 1)), (64, rwL (.bipush 25) 25), (66, rw0 .ishr), (67, rwL (.bipush 63) 63), (69, rw0 .iand)]), (80, [(70, rwL (.iconst 5) 5), (71, rw0 .ishl), (72, rw0 .ior), (73, rw0 (.iload_n 1)), (74, rwL (.bipush 8) 8), (76, rw0 .ishr), (77, rwL (.bipush 15) 15), (79, rw0 .iand)]), (90, [(80, rwL (.iconst 1) 1), (81, rw0 .ishl), (82, rw0 .ior), (83, rw0 .ireturn), (84, rw0 (.iload_n 0)), (85, rwL (.iconst 4) 4), (86, rwN (.if_icmp .eq 15) 101), (89, rw0 (.iload_n 0))]), (105, [(90, rwL (.bipush 6) 6), (92, rwN (.if_icmp .eq 9) 101), (95, rw0 (.iload_n 0)), (96, rwL (.bipush 12) 12), (98, rwN (.if_icmp .ne 10) 108), (101, rw0 (.iload_n 1)), (102, rwL (.bipush 20) 20), (104, rw0 .ishr)]), (110, [(105, rwN (.goto 4) 109), (108, rwL (.iconst 0) 0), (109, rw0 .ireturn)])]
set_option maxRecDepth 100000 in
theorem cwZ_fieldC : am_cw sZ_fieldC ∈ am_gw := am_mem (i := 878) rfl rfl
set_option maxRecDepth 100000 in
theorem gdZ_fieldC : am_Good sZ_fieldC cdZ_fieldC := by decide +kernel
abbrev sZ_isLong : am_Sg := (yX11_isLong, cX11_isLong, 1, some .boolean, { frames := 0, cells := 0, slots := 0, locals := 0 })
def cdZ_isLong : am_Cd := [(12, [(0, rw0 (.iload_n 0)), (1, rwL (.iconst 3) 3), (2, rw0 .iand), (3, rwL (.iconst 3) 3), (4, rwN (.if_icmp .ne 7) 11), (7, rwL (.iconst 1) 1), (8, rwN (.goto 4) 12), (11, rwL (.iconst 0) 0)]), (13, [(12, rw0 .ireturn)])]
set_option maxRecDepth 100000 in
theorem cwZ_isLong : am_cw sZ_isLong ∈ am_gw := am_mem (i := 867) rfl rfl
set_option maxRecDepth 100000 in
theorem gdZ_isLong : am_Good sZ_isLong cdZ_isLong := by decide +kernel
abbrev sZ_kind : am_Sg := (yX11_kind, cX11_kind, 7, some .int, { frames := 3, cells := 0, slots := 0, locals := 73 })
def cdZ_kind : am_Cd := [(15, [(0, rw0 (.iload_n 1)), (1, rwC (.invokestatic 110) 1 "" [(0, sZ_isLong)] [54, 866, 865]), (4, rwN (.ifCond .eq 7) 11), (7, rw0 (.iload_n 1)), (8, rwN (.goto 7) 15), (11, rw0 (.iload_n 1)), (12, rwP (.ldc 113) 65535 [868]), (14, rw0 .iand)]), (30, [(15, rw0 (.istore_n 2)), (16, rw0 (.iload_n 1)), (17, rwC (.invokestatic 110) 1 "" [(0, sZ_isLong)] [54, 866, 865]), (20, rwN (.ifCond .eq 7) 27), (23, rwL (.iconst 0) 0), (24, rwN (.goto 5) 29), (27, rwL (.bipush 13) 13), (29, rw0 (.istore_n 3))]), (48, [(30, rw0 (.iload_n 3)), (31, rw0 (.iload_n 1)), (32, rwC (.invokestatic 110) 1 "" [(0, sZ_isLong)] [54, 866, 865]), (35, rwN (.ifCond .eq 8) 43), (38, rwL (.bipush 13) 13), (40, rwN (.goto 5) 45), (43, rwL (.bipush 15) 15), (45, rwN (.if_icmp .ge 59) 104)]), (62, [(48, rw0 (.iload_n 3)), (49, rw0 (.iload_n 2)), (50, rwC (.invokestatic 114) 2 "" [(0, sZ_fieldA)] [54, 870, 869]), (53, rw0 (.istore 4)), (55, rw0 (.iload_n 3)), (56, rw0 (.iload_n 2)), (57, rwC (.invokestatic 117) 2 "" [(0, sZ_fieldB)] [54, 873, 872]), (60, rw0 (.istore 5))]), (76, [(62, rw0 (.iload_n 3)), (63, rw0 (.iload_n 2)), (64, rwC (.invokestatic 120) 2 "" [(0, sZ_fieldC)] [54, 877, 876]), (67, rw0 (.istore 6)), (69, rw0 (.iload_n 3)), (70, rw0 (.iload 4)), (72, rw0 (.iload 5)), (74, rw0 (.iload 6))]), (93, [(76, rwC (.invokestatic 102) 4 "" [(0, sZ_fits)] [54, 837, 836]), (79, rwN (.ifCond .eq 19) 98), (82, rw0 (.iload_n 3)), (83, rw0 (.iload 4)), (85, rw0 (.iload 5)), (87, rw0 (.iload 6)), (89, rwC (.invokestatic 106) 4 "" [(0, sZ_made)] [54, 846, 845]), (92, rw0 (.iload_n 2))]), (106, [(93, rwN (.if_icmp .ne 5) 98), (96, rw0 (.iload_n 3)), (97, rw0 .ireturn), (98, rwL (.iinc 3 1) 1), (101, rwN (.goto (-71)) 30), (104, rwL (.iconst (-1)) (-1)), (105, rw0 .ireturn)])]
set_option maxRecDepth 100000 in
theorem cwZ_kind : am_cw sZ_kind ∈ am_gw := am_mem (i := 864) rfl rfl
set_option maxRecDepth 100000 in
theorem gdZ_kind : am_Good sZ_kind cdZ_kind := by decide +kernel
abbrev sZ_notOwn : am_Sg := (yX11_notOwn, cX11_notOwn, 1, some .boolean, { frames := 0, cells := 0, slots := 0, locals := 0 })
def cdZ_notOwn : am_Cd := [(15, [(0, rw0 (.iload_n 0)), (1, rwN (.ifCond .lt 9) 10), (4, rw0 (.iload_n 0)), (5, rwL (.bipush 26) 26), (7, rwN (.if_icmp .le 7) 14), (10, rwL (.iconst 1) 1), (11, rwN (.goto 4) 15), (14, rwL (.iconst 0) 0)]), (16, [(15, rw0 .ireturn)])]
set_option maxRecDepth 100000 in
theorem cwZ_notOwn : am_cw sZ_notOwn ∈ am_gw := am_mem (i := 888) rfl rfl
set_option maxRecDepth 100000 in
theorem gdZ_notOwn : am_Good sZ_notOwn cdZ_notOwn := by decide +kernel
abbrev sZ_notTarget : am_Sg := (yX11_notTarget, cX11_notTarget, 1, some .boolean, { frames := 0, cells := 0, slots := 0, locals := 0 })
def cdZ_notTarget : am_Cd := [(15, [(0, rw0 (.iload_n 0)), (1, rwN (.ifCond .lt 9) 10), (4, rw0 (.iload_n 0)), (5, rwL (.bipush 20) 20), (7, rwN (.if_icmp .le 7) 14), (10, rwL (.iconst 1) 1), (11, rwN (.goto 4) 15), (14, rwL (.iconst 0) 0)]), (16, [(15, rw0 .ireturn)])]
set_option maxRecDepth 100000 in
theorem cwZ_notTarget : am_cw sZ_notTarget ∈ am_gw := am_mem (i := 891) rfl rfl
set_option maxRecDepth 100000 in
theorem gdZ_notTarget : am_Good sZ_notTarget cdZ_notTarget := by decide +kernel
abbrev sZ_isLine : am_Sg := (yX11_isLine, cX11_isLine, 4, some .boolean, { frames := 2, cells := 0, slots := 0, locals := 45 })
def cdZ_isLine : am_Cd := [(13, [(0, rw0 (.iload_n 0)), (1, rwL (.iconst 0) 0), (2, rwL (.bipush 16) 16), (4, rwC (.invokestatic 82) 3 "" [(0, sZ_outside)] [54, 834, 833]), (7, rwN (.ifCond .eq 5) 12), (10, rwL (.iconst 0) 0), (11, rw0 .ireturn), (12, rw0 (.iload_n 0))]), (28, [(13, rwL (.bipush 15) 15), (15, rwN (.if_icmp .ne 18) 33), (18, rw0 (.iload_n 1)), (19, rwL (.iconst 0) 0), (20, rwL (.iconst 2) 2), (21, rwC (.invokestatic 82) 3 "" [(0, sZ_outside)] [54, 834, 833]), (24, rwN (.ifCond .ne 7) 31), (27, rwL (.iconst 1) 1)]), (42, [(28, rwN (.goto 4) 32), (31, rwL (.iconst 0) 0), (32, rw0 .ireturn), (33, rw0 (.iload_n 0)), (34, rwL (.bipush 16) 16), (36, rwN (.if_icmp .eq 9) 45), (39, rw0 (.iload_n 0)), (40, rwL (.bipush 11) 11)]), (60, [(42, rwN (.if_icmp .ne 23) 65), (45, rw0 (.iload_n 1)), (46, rwC (.invokestatic 123) 1 "" [(0, sZ_notOwn)] [54, 887, 886]), (49, rwN (.ifCond .ne 14) 63), (52, rw0 (.iload_n 2)), (53, rwC (.invokestatic 126) 1 "" [(0, sZ_notTarget)] [54, 890, 889]), (56, rwN (.ifCond .ne 7) 63), (59, rwL (.iconst 1) 1)]), (74, [(60, rwN (.goto 4) 64), (63, rwL (.iconst 0) 0), (64, rw0 .ireturn), (65, rw0 (.iload_n 0)), (66, rwL (.bipush 8) 8), (68, rwN (.if_icmp .lt 36) 104), (71, rw0 (.iload_n 0)), (72, rwL (.bipush 10) 10)]), (92, [(74, rwN (.if_icmp .gt 30) 104), (77, rw0 (.iload_n 1)), (78, rwC (.invokestatic 123) 1 "" [(0, sZ_notOwn)] [54, 887, 886]), (81, rwN (.ifCond .ne 21) 102), (84, rw0 (.iload_n 2)), (85, rwC (.invokestatic 123) 1 "" [(0, sZ_notOwn)] [54, 887, 886]), (88, rwN (.ifCond .ne 14) 102), (91, rw0 (.iload_n 3))]), (108, [(92, rwC (.invokestatic 126) 1 "" [(0, sZ_notTarget)] [54, 890, 889]), (95, rwN (.ifCond .ne 7) 102), (98, rwL (.iconst 1) 1), (99, rwN (.goto 4) 103), (102, rwL (.iconst 0) 0), (103, rw0 .ireturn), (104, rw0 (.iload_n 1)), (105, rwC (.invokestatic 123) 1 "" [(0, sZ_notOwn)] [54, 887, 886])]), (123, [(108, rwN (.ifCond .ne 33) 141), (111, rw0 (.iload_n 0)), (112, rwL (.iconst 5) 5), (113, rwN (.if_icmp .eq 16) 129), (116, rw0 (.iload_n 0)), (117, rwL (.bipush 13) 13), (119, rwN (.if_icmp .eq 10) 129), (122, rw0 (.iload_n 2))]), (141, [(123, rwC (.invokestatic 123) 1 "" [(0, sZ_notOwn)] [54, 887, 886]), (126, rwN (.ifCond .ne 15) 141), (129, rw0 (.iload_n 0)), (130, rwL (.iconst 4) 4), (131, rwN (.if_icmp .ge 12) 143), (134, rw0 (.iload_n 3)), (135, rwC (.invokestatic 123) 1 "" [(0, sZ_notOwn)] [54, 887, 886]), (138, rwN (.ifCond .eq 5) 143)]), (152, [(141, rwL (.iconst 0) 0), (142, rw0 .ireturn), (143, rw0 (.iload_n 0)), (144, rw0 (.iload_n 1)), (145, rw0 (.iload_n 2)), (146, rw0 (.iload_n 0)), (147, rwL (.bipush 12) 12), (149, rwN (.if_icmp .ne 7) 156)]), (161, [(152, rwL (.iconst 0) 0), (153, rwN (.goto 4) 157), (156, rw0 (.iload_n 3)), (157, rwC (.invokestatic 102) 4 "" [(0, sZ_fits)] [54, 837, 836]), (160, rw0 .ireturn)])]
set_option maxRecDepth 100000 in
theorem cwZ_isLine : am_cw sZ_isLine ∈ am_gw := am_mem (i := 885) rfl rfl
set_option maxRecDepth 100000 in
theorem gdZ_isLine : am_Good sZ_isLine cdZ_isLine := by decide +kernel
abbrev sZ_line : am_Sg := (yX11_line, cX11_line, 5, some .int, { frames := 3, cells := 0, slots := 0, locals := 68 })
def cdZ_line : am_Cd := [(13, [(0, rw0 (.iload_n 1)), (1, rw0 (.iload_n 2)), (2, rw0 (.iload_n 3)), (3, rw0 (.iload 4)), (5, rwC (.invokestatic 129) 4 "" [(0, sZ_isLine)] [54, 884, 883]), (8, rwN (.ifCond .ne 5) 13), (11, rwL (.iconst (-1)) (-1)), (12, rw0 .ireturn)]), (29, [(13, rw0 (.aload_n 0)), (14, rwF (.getfield 132) 0 0 "FencedCodeModel" [8] [743, 0]), (17, rwL (.bipush 20) 20), (19, rwN (.if_icmp .ne 6) 25), (22, rwL (.bipush (-2)) (-2)), (24, rw0 .ireturn), (25, rw0 (.aload_n 0)), (26, rwF (.getfield 7) 1 2 "FencedCodeModel" [8] [744, 0])]), (43, [(29, rw0 (.aload_n 0)), (30, rwF (.getfield 132) 0 0 "FencedCodeModel" [8] [743, 0]), (33, rw0 (.iload_n 1)), (34, rw0 .iastore), (35, rw0 (.aload_n 0)), (36, rwF (.getfield 13) 2 2 "FencedCodeModel" [8] [745, 0]), (39, rw0 (.aload_n 0)), (40, rwF (.getfield 132) 0 0 "FencedCodeModel" [8] [743, 0])]), (55, [(43, rw0 (.iload_n 2)), (44, rw0 .iastore), (45, rw0 (.aload_n 0)), (46, rwF (.getfield 16) 3 2 "FencedCodeModel" [8] [746, 0]), (49, rw0 (.aload_n 0)), (50, rwF (.getfield 132) 0 0 "FencedCodeModel" [8] [743, 0]), (53, rw0 (.iload_n 3)), (54, rw0 .iastore)]), (68, [(55, rw0 (.aload_n 0)), (56, rwF (.getfield 19) 4 2 "FencedCodeModel" [8] [747, 0]), (59, rw0 (.aload_n 0)), (60, rwF (.getfield 132) 0 0 "FencedCodeModel" [8] [743, 0]), (63, rw0 (.iload 4)), (65, rw0 .iastore), (66, rw0 (.aload_n 0)), (67, rw0 .dup)]), (81, [(68, rwF (.getfield 132) 0 0 "FencedCodeModel" [8] [743, 0]), (71, rwL (.iconst 1) 1), (72, rw0 .iadd), (73, rwF (.putfield 132) 0 0 "FencedCodeModel" [8] [743, 0]), (76, rw0 (.aload_n 0)), (77, rwF (.getfield 132) 0 0 "FencedCodeModel" [8] [743, 0]), (80, rw0 .ireturn)])]
set_option maxRecDepth 100000 in
theorem cwZ_line : am_cw sZ_line ∈ am_gw := am_mem (i := 882) rfl rfl
set_option maxRecDepth 100000 in
theorem gdZ_line : am_Good sZ_line cdZ_line := by decide +kernel
abbrev sZ_clear : am_Sg := (yX11_clear, cX11_clear, 2, some .int, { frames := 0, cells := 0, slots := 0, locals := 0 })
def cdZ_clear : am_Cd := [(12, [(0, rw0 (.aload_n 0)), (1, rwF (.getfield 132) 0 0 "FencedCodeModel" [8] [743, 0]), (4, rw0 (.istore_n 1)), (5, rw0 (.aload_n 0)), (6, rwL (.iconst 0) 0), (7, rwF (.putfield 132) 0 0 "FencedCodeModel" [8] [743, 0]), (10, rw0 (.iload_n 1)), (11, rw0 .ireturn)])]
set_option maxRecDepth 100000 in
theorem cwZ_clear : am_cw sZ_clear ∈ am_gw := am_mem (i := 895) rfl rfl
set_option maxRecDepth 100000 in
theorem gdZ_clear : am_Good sZ_clear cdZ_clear := by decide +kernel
abbrev sZ_targetOf : am_Sg := (yX11_targetOf, cX11_targetOf, 3, some .int, { frames := 0, cells := 0, slots := 0, locals := 0 })
def cdZ_targetOf : am_Cd := [(13, [(0, rw0 (.aload_n 0)), (1, rwF (.getfield 7) 1 2 "FencedCodeModel" [8] [744, 0]), (4, rw0 (.iload_n 1)), (5, rw0 .iaload), (6, rw0 (.istore_n 2)), (7, rw0 (.iload_n 2)), (8, rwL (.bipush 11) 11), (10, rwN (.if_icmp .eq 9) 19)]), (28, [(13, rw0 (.iload_n 2)), (14, rwL (.bipush 16) 16), (16, rwN (.if_icmp .ne 12) 28), (19, rw0 (.aload_n 0)), (20, rwF (.getfield 16) 3 2 "FencedCodeModel" [8] [746, 0]), (23, rw0 (.iload_n 1)), (24, rw0 .iaload), (25, rwN (.goto 25) 50)]), (44, [(28, rw0 (.iload_n 2)), (29, rwL (.bipush 8) 8), (31, rwN (.if_icmp .lt 18) 49), (34, rw0 (.iload_n 2)), (35, rwL (.bipush 10) 10), (37, rwN (.if_icmp .gt 12) 49), (40, rw0 (.aload_n 0)), (41, rwF (.getfield 19) 4 2 "FencedCodeModel" [8] [747, 0])]), (51, [(44, rw0 (.iload_n 1)), (45, rw0 .iaload), (46, rwN (.goto 4) 50), (49, rwL (.iconst (-1)) (-1)), (50, rw0 .ireturn)])]
set_option maxRecDepth 100000 in
theorem cwZ_targetOf : am_cw sZ_targetOf ∈ am_gw := am_mem (i := 903) rfl rfl
set_option maxRecDepth 100000 in
theorem gdZ_targetOf : am_Good sZ_targetOf cdZ_targetOf := by decide +kernel
abbrev sZ_isAimed : am_Sg := (yX11_isAimed, cX11_isAimed, 4, some .boolean, { frames := 0, cells := 0, slots := 0, locals := 0 })
def cdZ_isAimed : am_Cd := [(12, [(0, rwL (.iconst 0) 0), (1, rw0 (.istore_n 2)), (2, rwL (.iconst 0) 0), (3, rw0 (.istore_n 3)), (4, rw0 (.iload_n 3)), (5, rw0 (.aload_n 0)), (6, rwF (.getfield 132) 0 0 "FencedCodeModel" [8] [743, 0]), (9, rwN (.if_icmp .ge 40) 49)]), (27, [(12, rw0 (.iload_n 2)), (13, rwN (.ifCond .ne 24) 37), (16, rw0 (.aload_n 0)), (17, rwF (.getfield 7) 1 2 "FencedCodeModel" [8] [744, 0]), (20, rw0 (.iload_n 3)), (21, rw0 .iaload), (22, rwL (.bipush 16) 16), (24, rwN (.if_icmp .ne 17) 41)]), (41, [(27, rw0 (.aload_n 0)), (28, rwF (.getfield 16) 3 2 "FencedCodeModel" [8] [746, 0]), (31, rw0 (.iload_n 3)), (32, rw0 .iaload), (33, rw0 (.iload_n 1)), (34, rwN (.if_icmp .ne 7) 41), (37, rwL (.iconst 1) 1), (38, rwN (.goto 4) 42)]), (51, [(41, rwL (.iconst 0) 0), (42, rw0 (.istore_n 2)), (43, rwL (.iinc 3 1) 1), (46, rwN (.goto (-42)) 4), (49, rw0 (.iload_n 2)), (50, rw0 .ireturn)])]
set_option maxRecDepth 100000 in
theorem cwZ_isAimed : am_cw sZ_isAimed ∈ am_gw := am_mem (i := 911) rfl rfl
set_option maxRecDepth 100000 in
theorem gdZ_isAimed : am_Good sZ_isAimed cdZ_isAimed := by decide +kernel
abbrev sZ_sizeOf : am_Sg := (yX11_sizeOf, cX11_sizeOf, 3, some .int, { frames := 0, cells := 0, slots := 0, locals := 0 })
def cdZ_sizeOf : am_Cd := [(13, [(0, rw0 (.aload_n 0)), (1, rwF (.getfield 7) 1 2 "FencedCodeModel" [8] [744, 0]), (4, rw0 (.iload_n 1)), (5, rw0 .iaload), (6, rw0 (.istore_n 2)), (7, rw0 (.iload_n 2)), (8, rwL (.bipush 6) 6), (10, rwN (.if_icmp .eq 9) 19)]), (30, [(13, rw0 (.iload_n 2)), (14, rwL (.bipush 7) 7), (16, rwN (.if_icmp .ne 8) 24), (19, rwL (.bipush 16) 16), (21, rwN (.goto 31) 52), (24, rw0 (.iload_n 2)), (25, rwL (.bipush 12) 12), (27, rwN (.if_icmp .ne 8) 35)]), (47, [(30, rwL (.bipush 8) 8), (32, rwN (.goto 20) 52), (35, rw0 (.iload_n 2)), (36, rwL (.bipush 13) 13), (38, rwN (.if_icmp .eq 9) 47), (41, rw0 (.iload_n 2)), (42, rwL (.bipush 14) 14), (44, rwN (.if_icmp .ne 7) 51)]), (53, [(47, rwL (.iconst 2) 2), (48, rwN (.goto 4) 52), (51, rwL (.iconst 4) 4), (52, rw0 .ireturn)])]
set_option maxRecDepth 100000 in
theorem cwZ_sizeOf : am_cw sZ_sizeOf ∈ am_gw := am_mem (i := 918) rfl rfl
set_option maxRecDepth 100000 in
theorem gdZ_sizeOf : am_Good sZ_sizeOf cdZ_sizeOf := by decide +kernel
abbrev sZ_ends : am_Sg := (yX11_ends, cX11_ends, 2, some .boolean, { frames := 0, cells := 0, slots := 0, locals := 0 })
def cdZ_ends : am_Cd := [(15, [(0, rw0 (.aload_n 0)), (1, rwF (.getfield 7) 1 2 "FencedCodeModel" [8] [744, 0]), (4, rw0 (.iload_n 1)), (5, rw0 .iaload), (6, rwL (.bipush 15) 15), (8, rwN (.if_icmp .eq 34) 42), (11, rw0 (.aload_n 0)), (12, rwF (.getfield 7) 1 2 "FencedCodeModel" [8] [744, 0])]), (28, [(15, rw0 (.iload_n 1)), (16, rw0 .iaload), (17, rwL (.bipush 11) 11), (19, rwN (.if_icmp .eq 14) 33), (22, rw0 (.aload_n 0)), (23, rwF (.getfield 7) 1 2 "FencedCodeModel" [8] [744, 0]), (26, rw0 (.iload_n 1)), (27, rw0 .iaload)]), (43, [(28, rwL (.bipush 12) 12), (30, rwN (.if_icmp .ne 16) 46), (33, rw0 (.aload_n 0)), (34, rwF (.getfield 13) 2 2 "FencedCodeModel" [8] [745, 0]), (37, rw0 (.iload_n 1)), (38, rw0 .iaload), (39, rwN (.ifCond .eq 7) 46), (42, rwL (.iconst 1) 1)]), (48, [(43, rwN (.goto 4) 47), (46, rwL (.iconst 0) 0), (47, rw0 .ireturn)])]
set_option maxRecDepth 100000 in
theorem cwZ_ends : am_cw sZ_ends ∈ am_gw := am_mem (i := 922) rfl rfl
set_option maxRecDepth 100000 in
theorem gdZ_ends : am_Good sZ_ends cdZ_ends := by decide +kernel
abbrev sZ_rest : am_Sg := (yX11_rest, cX11_rest, 1, some .int, { frames := 0, cells := 0, slots := 0, locals := 0 })
def cdZ_rest : am_Cd := [(11, [(0, rwL (.bipush 16) 16), (2, rw0 (.iload_n 0)), (3, rwL (.bipush 16) 16), (5, rw0 .irem), (6, rw0 .isub), (7, rwL (.bipush 16) 16), (9, rw0 .irem), (10, rw0 .ireturn)])]
set_option maxRecDepth 100000 in
theorem cwZ_rest : am_cw sZ_rest ∈ am_gw := am_mem (i := 914) rfl rfl
set_option maxRecDepth 100000 in
theorem gdZ_rest : am_Good sZ_rest cdZ_rest := by decide +kernel
abbrev sZ_layOut : am_Sg := (yX11_layOut, cX11_layOut, 4, some .int, { frames := 1, cells := 0, slots := 0, locals := 23 })
def cdZ_layOut : am_Cd := [(13, [(0, rwL (.bipush 48) 48), (2, rw0 (.istore_n 1)), (3, rwL (.iconst 0) 0), (4, rw0 (.istore_n 2)), (5, rw0 (.iload_n 2)), (6, rw0 (.aload_n 0)), (7, rwF (.getfield 132) 0 0 "FencedCodeModel" [8] [743, 0]), (10, rwN (.if_icmp .gt 99) 109)]), (29, [(13, rw0 (.iload_n 1)), (14, rw0 (.aload_n 0)), (15, rw0 (.iload_n 2)), (16, rwC (.invokevirtual 136) 1 "" [(8, sZ_isAimed)] [54, 910, 908, 20, 0, 0]), (19, rwN (.ifCond .eq 10) 29), (22, rw0 (.iload_n 1)), (23, rwC (.invokestatic 139) 1 "" [(0, sZ_rest)] [54, 913, 912]), (26, rwN (.goto 4) 30)]), (39, [(29, rwL (.iconst 0) 0), (30, rw0 .iadd), (31, rw0 (.istore_n 1)), (32, rw0 (.aload_n 0)), (33, rwF (.getfield 40) 13 2 "FencedCodeModel" [8] [756, 0]), (36, rw0 (.iload_n 2)), (37, rw0 (.iload_n 1)), (38, rw0 .iastore)]), (53, [(39, rw0 (.iload_n 2)), (40, rw0 (.aload_n 0)), (41, rwF (.getfield 132) 0 0 "FencedCodeModel" [8] [743, 0]), (44, rwN (.if_icmp .ge 59) 103), (47, rw0 (.aload_n 0)), (48, rw0 (.iload_n 2)), (49, rwC (.invokevirtual 143) 1 "" [(8, sZ_sizeOf)] [54, 917, 915, 21, 0, 0]), (52, rw0 (.istore_n 3))]), (65, [(53, rw0 (.iload_n 1)), (54, rw0 (.aload_n 0)), (55, rw0 (.iload_n 2)), (56, rwC (.invokevirtual 146) 1 "" [(8, sZ_ends)] [54, 921, 919, 22, 0, 0]), (59, rwN (.ifCond .eq 12) 71), (62, rw0 (.iload_n 1)), (63, rw0 (.iload_n 3)), (64, rw0 .iadd)]), (79, [(65, rwC (.invokestatic 139) 1 "" [(0, sZ_rest)] [54, 913, 912]), (68, rwN (.goto 22) 90), (71, rw0 (.iload_n 1)), (72, rwL (.bipush 16) 16), (74, rw0 .irem), (75, rw0 (.iload_n 3)), (76, rw0 .iadd), (77, rwL (.bipush 16) 16)]), (93, [(79, rwN (.if_icmp .le 10) 89), (82, rw0 (.iload_n 1)), (83, rwC (.invokestatic 139) 1 "" [(0, sZ_rest)] [54, 913, 912]), (86, rwN (.goto 4) 90), (89, rwL (.iconst 0) 0), (90, rw0 .iadd), (91, rw0 (.istore_n 1)), (92, rw0 (.aload_n 0))]), (103, [(93, rwF (.getfield 37) 12 2 "FencedCodeModel" [8] [755, 0]), (96, rw0 (.iload_n 2)), (97, rw0 (.iload_n 1)), (98, rw0 .iastore), (99, rw0 (.iload_n 1)), (100, rw0 (.iload_n 3)), (101, rw0 .iadd), (102, rw0 (.istore_n 1))]), (117, [(103, rwL (.iinc 2 1) 1), (106, rwN (.goto (-101)) 5), (109, rw0 (.iload_n 1)), (110, rwL (.bipush 16) 16), (112, rw0 .iadd), (113, rw0 (.iload_n 1)), (114, rwL (.bipush 16) 16), (116, rw0 .irem)]), (119, [(117, rw0 .isub), (118, rw0 .ireturn)])]
set_option maxRecDepth 100000 in
theorem cwZ_layOut : am_cw sZ_layOut ∈ am_gw := am_mem (i := 907) rfl rfl
set_option maxRecDepth 100000 in
theorem gdZ_layOut : am_Good sZ_layOut cdZ_layOut := by decide +kernel
abbrev sZ_put : am_Sg := (yX11_put, cX11_put, 4, none, { frames := 0, cells := 0, slots := 0, locals := 0 })
def cdZ_put : am_Cd := [(12, [(0, rwL (.iconst 0) 0), (1, rw0 (.istore_n 3)), (2, rw0 (.iload_n 3)), (3, rw0 (.iload_n 2)), (4, rwN (.if_icmp .ge 38) 42), (7, rw0 (.aload_n 0)), (8, rwF (.getfield 43) 15 2 "FencedCodeModel" [8] [758, 0]), (11, rw0 (.aload_n 0))]), (25, [(12, rwF (.getfield 149) 17 0 "FencedCodeModel" [8] [760, 0]), (15, rw0 (.iload_n 1)), (16, rwL (.bipush 8) 8), (18, rw0 (.iload_n 3)), (19, rw0 .imul), (20, rw0 .ishr), (21, rwL (.sipush 255) 255), (24, rw0 .iand)]), (39, [(25, rw0 .iastore), (26, rw0 (.aload_n 0)), (27, rw0 .dup), (28, rwF (.getfield 149) 17 0 "FencedCodeModel" [8] [760, 0]), (31, rwL (.iconst 1) 1), (32, rw0 .iadd), (33, rwF (.putfield 149) 17 0 "FencedCodeModel" [8] [760, 0]), (36, rwL (.iinc 3 1) 1)]), (43, [(39, rwN (.goto (-37)) 2), (42, rw0 .return_)])]
set_option maxRecDepth 100000 in
theorem cwZ_put : am_cw sZ_put ∈ am_gw := am_mem (i := 930) rfl rfl
set_option maxRecDepth 100000 in
theorem gdZ_put : am_Good sZ_put cdZ_put := by decide +kernel
abbrev sZ_pad : am_Sg := (yX11_pad, cX11_pad, 2, none, { frames := 3, cells := 0, slots := 0, locals := 73 })
def cdZ_pad : am_Cd := [(12, [(0, rw0 (.iload_n 1)), (1, rw0 (.aload_n 0)), (2, rwF (.getfield 149) 17 0 "FencedCodeModel" [8] [760, 0]), (5, rw0 .isub), (6, rwL (.iconst 4) 4), (7, rw0 .irem), (8, rwN (.ifCond .eq 16) 24), (11, rw0 (.aload_n 0))]), (25, [(12, rwL (.bipush 13) 13), (14, rwL (.iconst 0) 0), (15, rwL (.iconst 0) 0), (16, rwL (.iconst 0) 0), (17, rwC (.invokestatic 106) 4 "" [(0, sZ_made)] [54, 846, 845]), (20, rwL (.iconst 2) 2), (21, rwC (.invokevirtual 152) 2 "" [(8, sZ_put)] [54, 929, 927, 24, 0, 0]), (24, rw0 (.aload_n 0))]), (37, [(25, rwF (.getfield 149) 17 0 "FencedCodeModel" [8] [760, 0]), (28, rw0 (.iload_n 1)), (29, rwN (.if_icmp .ge 18) 47), (32, rw0 (.aload_n 0)), (33, rwL (.iconst 4) 4), (34, rwL (.iconst 0) 0), (35, rwL (.iconst 0) 0), (36, rwL (.iconst 0) 0)]), (48, [(37, rwC (.invokestatic 106) 4 "" [(0, sZ_made)] [54, 846, 845]), (40, rwL (.iconst 4) 4), (41, rwC (.invokevirtual 152) 2 "" [(8, sZ_put)] [54, 929, 927, 24, 0, 0]), (44, rwN (.goto (-20)) 24), (47, rw0 .return_)])]
set_option maxRecDepth 100000 in
theorem cwZ_pad : am_cw sZ_pad ∈ am_gw := am_mem (i := 926) rfl rfl
set_option maxRecDepth 100000 in
theorem gdZ_pad : am_Good sZ_pad cdZ_pad := by decide +kernel
abbrev sZ_write : am_Sg := (yX11_write, cX11_write, 6, none, { frames := 3, cells := 0, slots := 0, locals := 73 })
def cdZ_write : am_Cd := [(12, [(0, rw0 (.aload_n 0)), (1, rwF (.getfield 7) 1 2 "FencedCodeModel" [8] [744, 0]), (4, rw0 (.iload_n 1)), (5, rw0 .iaload), (6, rw0 (.istore_n 2)), (7, rw0 (.aload_n 0)), (8, rwF (.getfield 13) 2 2 "FencedCodeModel" [8] [745, 0]), (11, rw0 (.iload_n 1))]), (23, [(12, rw0 .iaload), (13, rw0 (.istore_n 3)), (14, rw0 (.aload_n 0)), (15, rwF (.getfield 16) 3 2 "FencedCodeModel" [8] [746, 0]), (18, rw0 (.iload_n 1)), (19, rw0 .iaload), (20, rw0 (.istore 4)), (22, rw0 (.aload_n 0))]), (37, [(23, rwF (.getfield 19) 4 2 "FencedCodeModel" [8] [747, 0]), (26, rw0 (.iload_n 1)), (27, rw0 .iaload), (28, rw0 (.istore 5)), (30, rw0 (.iload_n 2)), (31, rwL (.bipush 6) 6), (33, rwN (.if_icmp .eq 9) 42), (36, rw0 (.iload_n 2))]), (53, [(37, rwL (.bipush 7) 7), (39, rwN (.if_icmp .ne 64) 103), (42, rw0 (.aload_n 0)), (43, rwL (.iconst 4) 4), (44, rwL (.bipush 31) 31), (46, rw0 (.iload 4)), (48, rw0 (.iload 5)), (50, rwC (.invokestatic 106) 4 "" [(0, sZ_made)] [54, 846, 845])]), (68, [(53, rwL (.iconst 4) 4), (54, rwC (.invokevirtual 152) 2 "" [(8, sZ_put)] [54, 929, 927, 24, 0, 0]), (57, rw0 (.aload_n 0)), (58, rwL (.iconst 2) 2), (59, rwL (.bipush 31) 31), (61, rwL (.bipush 31) 31), (63, rwL (.bipush 29) 29), (65, rwC (.invokestatic 106) 4 "" [(0, sZ_made)] [54, 846, 845])]), (83, [(68, rwL (.iconst 4) 4), (69, rwC (.invokevirtual 152) 2 "" [(8, sZ_put)] [54, 929, 927, 24, 0, 0]), (72, rw0 (.aload_n 0)), (73, rwL (.iconst 3) 3), (74, rwL (.bipush 31) 31), (76, rwL (.bipush 31) 31), (78, rwL (.bipush 28) 28), (80, rwC (.invokestatic 106) 4 "" [(0, sZ_made)] [54, 846, 845])]), (96, [(83, rwL (.iconst 4) 4), (84, rwC (.invokevirtual 152) 2 "" [(8, sZ_put)] [54, 929, 927, 24, 0, 0]), (87, rw0 (.aload_n 0)), (88, rw0 (.iload_n 2)), (89, rw0 (.iload_n 3)), (90, rwL (.bipush 31) 31), (92, rwL (.iconst 0) 0), (93, rwC (.invokestatic 106) 4 "" [(0, sZ_made)] [54, 846, 845])]), (111, [(96, rwL (.iconst 4) 4), (97, rwC (.invokevirtual 152) 2 "" [(8, sZ_put)] [54, 929, 927, 24, 0, 0]), (100, rwN (.goto 194) 294), (103, rw0 (.iload_n 2)), (104, rwL (.bipush 12) 12), (106, rwN (.if_icmp .ne 35) 141), (109, rw0 (.aload_n 0)), (110, rwL (.iconst 2) 2)]), (127, [(111, rwL (.bipush 31) 31), (113, rw0 (.iload 4)), (115, rwL (.bipush 27) 27), (117, rwC (.invokestatic 106) 4 "" [(0, sZ_made)] [54, 846, 845]), (120, rwL (.iconst 4) 4), (121, rwC (.invokevirtual 152) 2 "" [(8, sZ_put)] [54, 929, 927, 24, 0, 0]), (124, rw0 (.aload_n 0)), (125, rwL (.bipush 12) 12)]), (142, [(127, rw0 (.iload_n 3)), (128, rwL (.bipush 31) 31), (130, rwL (.iconst 0) 0), (131, rwC (.invokestatic 106) 4 "" [(0, sZ_made)] [54, 846, 845]), (134, rwL (.iconst 4) 4), (135, rwC (.invokevirtual 152) 2 "" [(8, sZ_put)] [54, 929, 927, 24, 0, 0]), (138, rwN (.goto 156) 294), (141, rw0 (.iload_n 2))]), (156, [(142, rwL (.bipush 8) 8), (144, rwN (.if_icmp .lt 36) 180), (147, rw0 (.iload_n 2)), (148, rwL (.bipush 10) 10), (150, rwN (.if_icmp .gt 30) 180), (153, rw0 (.aload_n 0)), (154, rw0 (.iload_n 2)), (155, rw0 (.iload_n 3))]), (170, [(156, rw0 (.iload 4)), (158, rw0 (.aload_n 0)), (159, rwF (.getfield 34) 11 2 "FencedCodeModel" [8] [754, 0]), (162, rw0 (.iload 5)), (164, rw0 .iaload), (165, rw0 (.aload_n 0)), (166, rwF (.getfield 149) 17 0 "FencedCodeModel" [8] [760, 0]), (169, rw0 .isub)]), (187, [(170, rwC (.invokestatic 106) 4 "" [(0, sZ_made)] [54, 846, 845]), (173, rwL (.iconst 4) 4), (174, rwC (.invokevirtual 152) 2 "" [(8, sZ_put)] [54, 929, 927, 24, 0, 0]), (177, rwN (.goto 117) 294), (180, rw0 (.iload_n 2)), (181, rwL (.bipush 11) 11), (183, rwN (.if_icmp .ne 30) 213), (186, rw0 (.aload_n 0))]), (201, [(187, rwL (.bipush 11) 11), (189, rw0 (.iload_n 3)), (190, rw0 (.aload_n 0)), (191, rwF (.getfield 34) 11 2 "FencedCodeModel" [8] [754, 0]), (194, rw0 (.iload 4)), (196, rw0 .iaload), (197, rw0 (.aload_n 0)), (198, rwF (.getfield 149) 17 0 "FencedCodeModel" [8] [760, 0])]), (216, [(201, rw0 .isub), (202, rwL (.iconst 0) 0), (203, rwC (.invokestatic 106) 4 "" [(0, sZ_made)] [54, 846, 845]), (206, rwL (.iconst 4) 4), (207, rwC (.invokevirtual 152) 2 "" [(8, sZ_put)] [54, 929, 927, 24, 0, 0]), (210, rwN (.goto 84) 294), (213, rw0 (.iload_n 2)), (214, rwL (.bipush 15) 15)]), (228, [(216, rwN (.if_icmp .ne 27) 243), (219, rw0 (.aload_n 0)), (220, rwL (.bipush 11) 11), (222, rwL (.iconst 1) 1), (223, rwL (.bipush 16) 16), (225, rw0 (.iload_n 3)), (226, rw0 .imul), (227, rw0 (.aload_n 0))]), (244, [(228, rwF (.getfield 149) 17 0 "FencedCodeModel" [8] [760, 0]), (231, rw0 .isub), (232, rwL (.iconst 0) 0), (233, rwC (.invokestatic 106) 4 "" [(0, sZ_made)] [54, 846, 845]), (236, rwL (.iconst 4) 4), (237, rwC (.invokevirtual 152) 2 "" [(8, sZ_put)] [54, 929, 927, 24, 0, 0]), (240, rwN (.goto 54) 294), (243, rw0 (.iload_n 2))]), (257, [(244, rwL (.bipush 16) 16), (246, rwN (.if_icmp .ne 24) 270), (249, rw0 (.aload_n 0)), (250, rwL (.iconst 4) 4), (251, rw0 (.iload_n 3)), (252, rwL (.iconst 0) 0), (253, rw0 (.aload_n 0)), (254, rwF (.getfield 34) 11 2 "FencedCodeModel" [8] [754, 0])]), (272, [(257, rw0 (.iload 4)), (259, rw0 .iaload), (260, rwC (.invokestatic 106) 4 "" [(0, sZ_made)] [54, 846, 845]), (263, rwL (.iconst 4) 4), (264, rwC (.invokevirtual 152) 2 "" [(8, sZ_put)] [54, 929, 927, 24, 0, 0]), (267, rwN (.goto 27) 294), (270, rw0 (.aload_n 0)), (271, rw0 (.iload_n 2))]), (287, [(272, rw0 (.iload_n 3)), (273, rw0 (.iload 4)), (275, rw0 (.iload 5)), (277, rwC (.invokestatic 106) 4 "" [(0, sZ_made)] [54, 846, 845]), (280, rw0 (.iload_n 2)), (281, rwL (.bipush 12) 12), (283, rwN (.if_icmp .le 7) 290), (286, rwL (.iconst 2) 2)]), (295, [(287, rwN (.goto 4) 291), (290, rwL (.iconst 4) 4), (291, rwC (.invokevirtual 152) 2 "" [(8, sZ_put)] [54, 929, 927, 24, 0, 0]), (294, rw0 .return_)])]
set_option maxRecDepth 100000 in
theorem cwZ_write : am_cw sZ_write ∈ am_gw := am_mem (i := 934) rfl rfl
set_option maxRecDepth 100000 in
theorem gdZ_write : am_Good sZ_write cdZ_write := by decide +kernel
abbrev sZ_build : am_Sg := (yX11_build, cX11_build, 3, some .int, { frames := 4, cells := 0, slots := 0, locals := 98 })
def cdZ_build : am_Cd := [(12, [(0, rwL (.iconst 0) 0), (1, rw0 (.istore_n 1)), (2, rw0 (.iload_n 1)), (3, rw0 (.aload_n 0)), (4, rwF (.getfield 132) 0 0 "FencedCodeModel" [8] [743, 0]), (7, rwN (.if_icmp .ge 23) 30), (10, rw0 (.aload_n 0)), (11, rw0 (.iload_n 1))]), (30, [(12, rwC (.invokevirtual 156) 1 "" [(8, sZ_targetOf)] [54, 902, 900, 18, 0, 0]), (15, rw0 (.aload_n 0)), (16, rwF (.getfield 132) 0 0 "FencedCodeModel" [8] [743, 0]), (19, rwN (.if_icmp .le 5) 24), (22, rwL (.iconst (-1)) (-1)), (23, rw0 .ireturn), (24, rwL (.iinc 1 1) 1), (27, rwN (.goto (-25)) 2)]), (45, [(30, rw0 (.aload_n 0)), (31, rwC (.invokevirtual 159) 0 "" [(8, sZ_layOut)] [54, 906, 904, 19, 0, 0]), (34, rw0 (.istore_n 1)), (35, rw0 (.iload_n 1)), (36, rwL (.sipush 256) 256), (39, rwN (.if_icmp .le 6) 45), (42, rwL (.bipush (-2)) (-2)), (44, rw0 .ireturn)]), (59, [(45, rwL (.iconst 0) 0), (46, rw0 (.istore_n 2)), (47, rw0 (.iload_n 2)), (48, rw0 (.aload_n 0)), (49, rwF (.getfield 132) 0 0 "FencedCodeModel" [8] [743, 0]), (52, rwN (.if_icmp .gt 21) 73), (55, rw0 (.aload_n 0)), (56, rwF (.getfield 34) 11 2 "FencedCodeModel" [8] [754, 0])]), (73, [(59, rw0 (.iload_n 2)), (60, rw0 (.aload_n 0)), (61, rwF (.getfield 40) 13 2 "FencedCodeModel" [8] [756, 0]), (64, rw0 (.iload_n 2)), (65, rw0 .iaload), (66, rw0 .iastore), (67, rwL (.iinc 2 1) 1), (70, rwN (.goto (-23)) 47)]), (86, [(73, rwL (.iconst 0) 0), (74, rw0 (.istore_n 2)), (75, rw0 (.iload_n 2)), (76, rwL (.bipush 48) 48), (78, rwN (.if_icmp .ge 16) 94), (81, rw0 (.aload_n 0)), (82, rwF (.getfield 43) 15 2 "FencedCodeModel" [8] [758, 0]), (85, rw0 (.iload_n 2))]), (101, [(86, rwL (.iconst 0) 0), (87, rw0 .iastore), (88, rwL (.iinc 2 1) 1), (91, rwN (.goto (-16)) 75), (94, rw0 (.aload_n 0)), (95, rwL (.bipush 48) 48), (97, rwF (.putfield 149) 17 0 "FencedCodeModel" [8] [760, 0]), (100, rwL (.iconst 0) 0)]), (115, [(101, rw0 (.istore_n 2)), (102, rw0 (.iload_n 2)), (103, rw0 (.aload_n 0)), (104, rwF (.getfield 132) 0 0 "FencedCodeModel" [8] [743, 0]), (107, rwN (.if_icmp .ge 72) 179), (110, rw0 (.aload_n 0)), (111, rw0 (.aload_n 0)), (112, rwF (.getfield 37) 12 2 "FencedCodeModel" [8] [755, 0])]), (129, [(115, rw0 (.iload_n 2)), (116, rw0 .iaload), (117, rwC (.invokevirtual 163) 1 "" [(8, sZ_pad)] [54, 925, 923, 23, 0, 0]), (120, rw0 (.aload_n 0)), (121, rw0 (.iload_n 2)), (122, rwC (.invokevirtual 167) 1 "" [(8, sZ_write)] [54, 933, 931, 25, 0, 0]), (125, rw0 (.aload_n 0)), (126, rwF (.getfield 22) 7 2 "FencedCodeModel" [8] [750, 0])]), (141, [(129, rw0 (.iload_n 2)), (130, rw0 (.aload_n 0)), (131, rwF (.getfield 7) 1 2 "FencedCodeModel" [8] [744, 0]), (134, rw0 (.iload_n 2)), (135, rw0 .iaload), (136, rw0 .iastore), (137, rw0 (.aload_n 0)), (138, rwF (.getfield 25) 8 2 "FencedCodeModel" [8] [751, 0])]), (153, [(141, rw0 (.iload_n 2)), (142, rw0 (.aload_n 0)), (143, rwF (.getfield 13) 2 2 "FencedCodeModel" [8] [745, 0]), (146, rw0 (.iload_n 2)), (147, rw0 .iaload), (148, rw0 .iastore), (149, rw0 (.aload_n 0)), (150, rwF (.getfield 28) 9 2 "FencedCodeModel" [8] [752, 0])]), (165, [(153, rw0 (.iload_n 2)), (154, rw0 (.aload_n 0)), (155, rwF (.getfield 16) 3 2 "FencedCodeModel" [8] [746, 0]), (158, rw0 (.iload_n 2)), (159, rw0 .iaload), (160, rw0 .iastore), (161, rw0 (.aload_n 0)), (162, rwF (.getfield 31) 10 2 "FencedCodeModel" [8] [753, 0])]), (179, [(165, rw0 (.iload_n 2)), (166, rw0 (.aload_n 0)), (167, rwF (.getfield 19) 4 2 "FencedCodeModel" [8] [747, 0]), (170, rw0 (.iload_n 2)), (171, rw0 .iaload), (172, rw0 .iastore), (173, rwL (.iinc 2 1) 1), (176, rwN (.goto (-74)) 102)]), (191, [(179, rw0 (.aload_n 0)), (180, rw0 (.iload_n 1)), (181, rwC (.invokevirtual 163) 1 "" [(8, sZ_pad)] [54, 925, 923, 23, 0, 0]), (184, rw0 (.aload_n 0)), (185, rw0 (.iload_n 1)), (186, rwF (.putfield 170) 14 0 "FencedCodeModel" [8] [757, 0]), (189, rw0 (.aload_n 0)), (190, rw0 (.aload_n 0))]), (204, [(191, rwF (.getfield 132) 0 0 "FencedCodeModel" [8] [743, 0]), (194, rwF (.putfield 173) 5 0 "FencedCodeModel" [8] [748, 0]), (197, rw0 (.aload_n 0)), (198, rwL (.iconst 1) 1), (199, rwF (.putfield 176) 6 1 "FencedCodeModel" [8] [749, 0]), (202, rw0 (.iload_n 1)), (203, rw0 .ireturn)])]
set_option maxRecDepth 100000 in
theorem cwZ_build : am_cw sZ_build ∈ am_gw := am_mem (i := 899) rfl rfl
set_option maxRecDepth 100000 in
theorem gdZ_build : am_Good sZ_build cdZ_build := by decide +kernel
abbrev sZ_address : am_Sg := (yX11_address, cX11_address, 2, some .int, { frames := 0, cells := 0, slots := 0, locals := 0 })
def cdZ_address : am_Cd := [(16, [(0, rw0 (.aload_n 0)), (1, rwF (.getfield 176) 6 1 "FencedCodeModel" [8] [749, 0]), (4, rwN (.ifCond .eq 15) 19), (7, rw0 (.iload_n 1)), (8, rwN (.ifCond .lt 11) 19), (11, rw0 (.iload_n 1)), (12, rw0 (.aload_n 0)), (13, rwF (.getfield 173) 5 0 "FencedCodeModel" [8] [748, 0])]), (30, [(16, rwN (.if_icmp .le 7) 23), (19, rwL (.iconst (-1)) (-1)), (20, rwN (.goto 9) 29), (23, rw0 (.aload_n 0)), (24, rwF (.getfield 34) 11 2 "FencedCodeModel" [8] [754, 0]), (27, rw0 (.iload_n 1)), (28, rw0 .iaload), (29, rw0 .ireturn)])]
set_option maxRecDepth 100000 in
theorem cwZ_address : am_cw sZ_address ∈ am_gw := am_mem (i := 938) rfl rfl
set_option maxRecDepth 100000 in
theorem gdZ_address : am_Good sZ_address cdZ_address := by decide +kernel
abbrev sZ_length : am_Sg := (yX11_length, cX11_length, 3, some .boolean, { frames := 1, cells := 0, slots := 0, locals := 22 })
def cdZ_length : am_Cd := [(14, [(0, rw0 (.iload_n 1)), (1, rwL (.iconst 0) 0), (2, rwL (.sipush 256) 256), (5, rwC (.invokestatic 82) 3 "" [(0, sZ_outside)] [54, 834, 833]), (8, rwN (.ifCond .eq 5) 13), (11, rwL (.iconst 0) 0), (12, rw0 .ireturn), (13, rw0 (.aload_n 0))]), (28, [(14, rwF (.getfield 170) 14 0 "FencedCodeModel" [8] [757, 0]), (17, rw0 (.istore_n 2)), (18, rw0 (.iload_n 2)), (19, rw0 (.iload_n 1)), (20, rwN (.if_icmp .ge 16) 36), (23, rw0 (.aload_n 0)), (24, rwF (.getfield 43) 15 2 "FencedCodeModel" [8] [758, 0]), (27, rw0 (.iload_n 2))]), (42, [(28, rwL (.iconst 0) 0), (29, rw0 .iastore), (30, rwL (.iinc 2 1) 1), (33, rwN (.goto (-15)) 18), (36, rw0 (.aload_n 0)), (37, rw0 (.iload_n 1)), (38, rwF (.putfield 170) 14 0 "FencedCodeModel" [8] [757, 0]), (41, rwL (.iconst 1) 1)]), (43, [(42, rw0 .ireturn)])]
set_option maxRecDepth 100000 in
theorem cwZ_length : am_cw sZ_length ∈ am_gw := am_mem (i := 942) rfl rfl
set_option maxRecDepth 100000 in
theorem gdZ_length : am_Good sZ_length cdZ_length := by decide +kernel
abbrev sZ_poke : am_Sg := (yX11_poke, cX11_poke, 3, some .boolean, { frames := 1, cells := 0, slots := 0, locals := 22 })
def cdZ_poke : am_Cd := [(14, [(0, rw0 (.iload_n 1)), (1, rwN (.ifCond .lt 22) 23), (4, rw0 (.iload_n 1)), (5, rw0 (.aload_n 0)), (6, rwF (.getfield 170) 14 0 "FencedCodeModel" [8] [757, 0]), (9, rwN (.if_icmp .ge 14) 23), (12, rw0 (.iload_n 2)), (13, rwL (.iconst 0) 0)]), (30, [(14, rwL (.sipush 255) 255), (17, rwC (.invokestatic 82) 3 "" [(0, sZ_outside)] [54, 834, 833]), (20, rwN (.ifCond .eq 5) 25), (23, rwL (.iconst 0) 0), (24, rw0 .ireturn), (25, rw0 (.aload_n 0)), (26, rwF (.getfield 43) 15 2 "FencedCodeModel" [8] [758, 0]), (29, rw0 (.iload_n 1))]), (34, [(30, rw0 (.iload_n 2)), (31, rw0 .iastore), (32, rwL (.iconst 1) 1), (33, rw0 .ireturn)])]
set_option maxRecDepth 100000 in
theorem cwZ_poke : am_cw sZ_poke ∈ am_gw := am_mem (i := 946) rfl rfl
set_option maxRecDepth 100000 in
theorem gdZ_poke : am_Good sZ_poke cdZ_poke := by decide +kernel
abbrev sZ_peek : am_Sg := (yX11_peek, cX11_peek, 2, some .int, { frames := 0, cells := 0, slots := 0, locals := 0 })
def cdZ_peek : am_Cd := [(16, [(0, rw0 (.iload_n 1)), (1, rwL (.iconst (-1)) (-1)), (2, rwN (.if_icmp .ne 10) 12), (5, rw0 (.aload_n 0)), (6, rwF (.getfield 170) 14 0 "FencedCodeModel" [8] [757, 0]), (9, rwN (.goto 25) 34), (12, rw0 (.iload_n 1)), (13, rwN (.ifCond .lt 11) 24)]), (32, [(16, rw0 (.iload_n 1)), (17, rw0 (.aload_n 0)), (18, rwF (.getfield 170) 14 0 "FencedCodeModel" [8] [757, 0]), (21, rwN (.if_icmp .lt 7) 28), (24, rwL (.iconst (-1)) (-1)), (25, rwN (.goto 9) 34), (28, rw0 (.aload_n 0)), (29, rwF (.getfield 43) 15 2 "FencedCodeModel" [8] [758, 0])]), (35, [(32, rw0 (.iload_n 1)), (33, rw0 .iaload), (34, rw0 .ireturn)])]
set_option maxRecDepth 100000 in
theorem cwZ_peek : am_cw sZ_peek ∈ am_gw := am_mem (i := 950) rfl rfl
set_option maxRecDepth 100000 in
theorem gdZ_peek : am_Good sZ_peek cdZ_peek := by decide +kernel
abbrev sZ_byteAt : am_Sg := (yX11_byteAt, cX11_byteAt, 2, some .int, { frames := 0, cells := 0, slots := 0, locals := 0 })
def cdZ_byteAt : am_Cd := [(14, [(0, rw0 (.iload_n 1)), (1, rw0 (.aload_n 0)), (2, rwF (.getfield 170) 14 0 "FencedCodeModel" [8] [757, 0]), (5, rwN (.if_icmp .ge 12) 17), (8, rw0 (.aload_n 0)), (9, rwF (.getfield 43) 15 2 "FencedCodeModel" [8] [758, 0]), (12, rw0 (.iload_n 1)), (13, rw0 .iaload)]), (19, [(14, rwN (.goto 4) 18), (17, rwL (.iconst 0) 0), (18, rw0 .ireturn)])]
set_option maxRecDepth 100000 in
theorem cwZ_byteAt : am_cw sZ_byteAt ∈ am_gw := am_mem (i := 962) rfl rfl
set_option maxRecDepth 100000 in
theorem gdZ_byteAt : am_Good sZ_byteAt cdZ_byteAt := by decide +kernel
abbrev sZ_bitsAt : am_Sg := (yX11_bitsAt, cX11_bitsAt, 3, some .int, { frames := 1, cells := 0, slots := 0, locals := 21 })
def cdZ_bitsAt : am_Cd := [(12, [(0, rw0 (.aload_n 0)), (1, rw0 (.iload_n 1)), (2, rwC (.invokevirtual 180) 1 "" [(8, sZ_byteAt)] [54, 961, 959, 27, 0, 0]), (5, rw0 (.aload_n 0)), (6, rw0 (.iload_n 1)), (7, rwL (.iconst 1) 1), (8, rw0 .iadd), (9, rwC (.invokevirtual 180) 1 "" [(8, sZ_byteAt)] [54, 961, 959, 27, 0, 0])]), (25, [(12, rwL (.bipush 8) 8), (14, rw0 .ishl), (15, rw0 .ior), (16, rw0 (.istore_n 2)), (17, rw0 (.iload_n 2)), (18, rwC (.invokestatic 110) 1 "" [(0, sZ_isLong)] [54, 866, 865]), (21, rwN (.ifCond .eq 29) 50), (24, rw0 (.iload_n 2))]), (36, [(25, rw0 (.aload_n 0)), (26, rw0 (.iload_n 1)), (27, rwL (.iconst 2) 2), (28, rw0 .iadd), (29, rwC (.invokevirtual 180) 1 "" [(8, sZ_byteAt)] [54, 961, 959, 27, 0, 0]), (32, rwL (.bipush 16) 16), (34, rw0 .ishl), (35, rw0 .ior)]), (47, [(36, rw0 (.aload_n 0)), (37, rw0 (.iload_n 1)), (38, rwL (.iconst 3) 3), (39, rw0 .iadd), (40, rwC (.invokevirtual 180) 1 "" [(8, sZ_byteAt)] [54, 961, 959, 27, 0, 0]), (43, rwL (.bipush 24) 24), (45, rw0 .ishl), (46, rw0 .ior)]), (52, [(47, rwN (.goto 4) 51), (50, rw0 (.iload_n 2)), (51, rw0 .ireturn)])]
set_option maxRecDepth 100000 in
theorem cwZ_bitsAt : am_cw sZ_bitsAt ∈ am_gw := am_mem (i := 958) rfl rfl
set_option maxRecDepth 100000 in
theorem gdZ_bitsAt : am_Good sZ_bitsAt cdZ_bitsAt := by decide +kernel
abbrev sZ_bytesOf : am_Sg := (yX11_bytesOf, cX11_bytesOf, 1, some .int, { frames := 1, cells := 0, slots := 0, locals := 20 })
def cdZ_bytesOf : am_Cd := [(13, [(0, rw0 (.iload_n 0)), (1, rwC (.invokestatic 110) 1 "" [(0, sZ_isLong)] [54, 866, 865]), (4, rwN (.ifCond .eq 7) 11), (7, rwL (.iconst 4) 4), (8, rwN (.goto 4) 12), (11, rwL (.iconst 2) 2), (12, rw0 .ireturn)])]
set_option maxRecDepth 100000 in
theorem cwZ_bytesOf : am_cw sZ_bytesOf ∈ am_gw := am_mem (i := 966) rfl rfl
set_option maxRecDepth 100000 in
theorem gdZ_bytesOf : am_Good sZ_bytesOf cdZ_bytesOf := by decide +kernel
abbrev sZ_isBefore : am_Sg := (yX11_isBefore, cX11_isBefore, 6, some .boolean, { frames := 2, cells := 0, slots := 0, locals := 43 })
def cdZ_isBefore : am_Cd := [(11, [(0, rw0 (.iload_n 1)), (1, rwL (.iconst 1) 1), (2, rw0 .isub), (3, rw0 (.istore 4)), (5, rw0 (.iload 4)), (7, rw0 (.iload_n 1)), (8, rwL (.bipush 16) 16), (10, rw0 .idiv)]), (27, [(11, rwL (.bipush 16) 16), (13, rw0 .imul), (14, rwN (.if_icmp .lt 19) 33), (17, rw0 (.aload_n 0)), (18, rwF (.getfield 46) 16 2 "FencedCodeModel" [8] [759, 0]), (21, rw0 (.iload 4)), (23, rw0 .baload), (24, rwN (.ifCond .ne 9) 33)]), (42, [(27, rwL (.iinc 4 (-1)) (-1)), (30, rwN (.goto (-25)) 5), (33, rw0 (.iload 4)), (35, rw0 (.iload_n 1)), (36, rwL (.bipush 16) 16), (38, rw0 .idiv), (39, rwL (.bipush 16) 16), (41, rw0 .imul)]), (57, [(42, rwN (.if_icmp .ge 5) 47), (45, rwL (.iconst 0) 0), (46, rw0 .ireturn), (47, rw0 (.iload_n 3)), (48, rwN (.ifCond .eq 8) 56), (51, rwP (.ldc 183) (-1015809) [975]), (53, rwN (.goto 4) 57), (56, rwL (.iconst (-1)) (-1))]), (71, [(57, rw0 (.istore 5)), (59, rw0 (.aload_n 0)), (60, rw0 (.iload 4)), (62, rwC (.invokevirtual 184) 1 "" [(8, sZ_bitsAt)] [54, 957, 955, 26, 0, 0]), (65, rw0 (.iload 5)), (67, rw0 .iand), (68, rw0 (.iload_n 2)), (69, rw0 (.iload 5))]), (81, [(71, rw0 .iand), (72, rwN (.if_icmp .ne 7) 79), (75, rwL (.iconst 1) 1), (76, rwN (.goto 4) 80), (79, rwL (.iconst 0) 0), (80, rw0 .ireturn)])]
set_option maxRecDepth 100000 in
theorem cwZ_isBefore : am_cw sZ_isBefore ∈ am_gw := am_mem (i := 979) rfl rfl
set_option maxRecDepth 100000 in
theorem gdZ_isBefore : am_Good sZ_isBefore cdZ_isBefore := by decide +kernel
abbrev sZ_before : am_Sg := (yX11_before, cX11_before, 3, some .int, { frames := 0, cells := 0, slots := 0, locals := 0 })
def cdZ_before : am_Cd := [(10, [(0, rw0 (.iload_n 1)), (1, rwL (.iconst 1) 1), (2, rw0 .isub), (3, rw0 (.istore_n 2)), (4, rw0 (.aload_n 0)), (5, rwF (.getfield 46) 16 2 "FencedCodeModel" [8] [759, 0]), (8, rw0 (.iload_n 2)), (9, rw0 .baload)]), (21, [(10, rwN (.ifCond .ne 9) 19), (13, rwL (.iinc 2 (-1)) (-1)), (16, rwN (.goto (-12)) 4), (19, rw0 (.iload_n 2)), (20, rw0 .ireturn)])]
set_option maxRecDepth 100000 in
theorem cwZ_before : am_cw sZ_before ∈ am_gw := am_mem (i := 983) rfl rfl
set_option maxRecDepth 100000 in
theorem gdZ_before : am_Good sZ_before cdZ_before := by decide +kernel
abbrev sZ_spoils : am_Sg := (yX11_spoils, cX11_spoils, 8, some .boolean, { frames := 3, cells := 0, slots := 0, locals := 73 })
def cdZ_spoils : am_Cd := [(16, [(0, rw0 (.iload_n 1)), (1, rwL (.bipush 7) 7), (3, rwN (.if_icmp .lt 9) 12), (6, rw0 (.iload_n 1)), (7, rwL (.bipush 10) 10), (9, rwN (.if_icmp .le 7) 16), (12, rwL (.iconst 1) 1), (13, rwN (.goto 4) 17)]), (27, [(16, rwL (.iconst 0) 0), (17, rw0 (.istore_n 3)), (18, rw0 (.iload_n 2)), (19, rwL (.bipush 7) 7), (21, rw0 .ishr), (22, rwL (.bipush 31) 31), (24, rw0 .iand), (25, rw0 (.istore 4))]), (41, [(27, rw0 (.iload_n 3)), (28, rwN (.ifCond .eq 10) 38), (31, rw0 (.iload 4)), (33, rwL (.bipush 27) 27), (35, rwN (.if_icmp .ge 5) 40), (38, rwL (.iconst 0) 0), (39, rw0 .ireturn), (40, rwL (.iconst 2) 2)]), (56, [(41, rwL (.bipush 31) 31), (43, rwL (.iconst 0) 0), (44, rwL (.bipush 27) 27), (46, rwC (.invokestatic 106) 4 "" [(0, sZ_made)] [54, 846, 845]), (49, rw0 (.istore 5)), (51, rw0 (.iload_n 1)), (52, rwL (.iconst 4) 4), (53, rwN (.if_icmp .ne 14) 67)]), (71, [(56, rw0 (.iload 4)), (58, rwL (.bipush 31) 31), (60, rwN (.if_icmp .ne 7) 67), (63, rwL (.iconst 1) 1), (64, rwN (.goto 4) 68), (67, rwL (.iconst 0) 0), (68, rw0 (.istore 6)), (70, rw0 (.iload_n 2))]), (86, [(71, rwL (.iconst 2) 2), (72, rwL (.bipush 31) 31), (74, rwL (.bipush 31) 31), (76, rwL (.bipush 29) 29), (78, rwC (.invokestatic 106) 4 "" [(0, sZ_made)] [54, 846, 845]), (81, rwN (.if_icmp .eq 26) 107), (84, rw0 (.iload_n 2)), (85, rwL (.iconst 3) 3)]), (102, [(86, rwL (.bipush 31) 31), (88, rwL (.bipush 31) 31), (90, rwL (.bipush 28) 28), (92, rwC (.invokestatic 106) 4 "" [(0, sZ_made)] [54, 846, 845]), (95, rwN (.if_icmp .eq 12) 107), (98, rw0 (.iload_n 2)), (99, rwP (.ldc 183) (-1015809) [975]), (101, rw0 .iand)]), (119, [(102, rw0 (.iload 5)), (104, rwN (.if_icmp .ne 7) 111), (107, rwL (.iconst 1) 1), (108, rwN (.goto 4) 112), (111, rwL (.iconst 0) 0), (112, rw0 (.istore 7)), (114, rw0 (.iload 6)), (116, rwN (.ifCond .ne 12) 128)]), (130, [(119, rw0 (.iload 7)), (121, rwN (.ifCond .ne 7) 128), (124, rwL (.iconst 1) 1), (125, rwN (.goto 4) 129), (128, rwL (.iconst 0) 0), (129, rw0 .ireturn)])]
set_option maxRecDepth 100000 in
theorem cwZ_spoils : am_cw sZ_spoils ∈ am_gw := am_mem (i := 974) rfl rfl
set_option maxRecDepth 100000 in
theorem gdZ_spoils : am_Good sZ_spoils cdZ_spoils := by decide +kernel
abbrev sZ_lands : am_Sg := (yX11_lands, cX11_lands, 4, some .boolean, { frames := 4, cells := 0, slots := 0, locals := 99 })
def cdZ_lands : am_Cd := [(16, [(0, rw0 (.iload_n 1)), (1, rwN (.ifCond .eq 15) 16), (4, rw0 (.iload_n 1)), (5, rwL (.bipush 16) 16), (7, rwN (.if_icmp .eq 9) 16), (10, rw0 (.iload_n 1)), (11, rwL (.bipush 32) 32), (13, rwN (.if_icmp .ne 5) 18)]), (27, [(16, rwL (.iconst 1) 1), (17, rw0 .ireturn), (18, rw0 (.iload_n 1)), (19, rwL (.bipush 48) 48), (21, rw0 (.aload_n 0)), (22, rwF (.getfield 170) 14 0 "FencedCodeModel" [8] [757, 0]), (25, rwL (.iconst 1) 1), (26, rw0 .isub)]), (43, [(27, rwC (.invokestatic 82) 3 "" [(0, sZ_outside)] [54, 834, 833]), (30, rwN (.ifCond .ne 12) 42), (33, rw0 (.aload_n 0)), (34, rwF (.getfield 46) 16 2 "FencedCodeModel" [8] [759, 0]), (37, rw0 (.iload_n 1)), (38, rw0 .baload), (39, rwN (.ifCond .ne 5) 44), (42, rwL (.iconst 0) 0)]), (55, [(43, rw0 .ireturn), (44, rw0 (.aload_n 0)), (45, rw0 (.iload_n 1)), (46, rwC (.invokevirtual 184) 1 "" [(8, sZ_bitsAt)] [54, 957, 955, 26, 0, 0]), (49, rw0 (.istore_n 2)), (50, rw0 (.aload_n 0)), (51, rw0 (.iload_n 2)), (52, rwC (.invokevirtual 187) 1 "" [(8, sZ_kind)] [54, 862, 963, 863, 0, 0])]), (70, [(55, rw0 (.istore_n 3)), (56, rw0 (.iload_n 2)), (57, rwL (.iconst 3) 3), (58, rwL (.bipush 31) 31), (60, rwL (.bipush 31) 31), (62, rwL (.bipush 28) 28), (64, rwC (.invokestatic 106) 4 "" [(0, sZ_made)] [54, 846, 845]), (67, rwN (.if_icmp .eq 25) 92)]), (85, [(70, rw0 (.iload_n 3)), (71, rwL (.bipush 6) 6), (73, rwN (.if_icmp .eq 19) 92), (76, rw0 (.iload_n 3)), (77, rwL (.bipush 7) 7), (79, rwN (.if_icmp .eq 13) 92), (82, rw0 (.iload_n 3)), (83, rwL (.bipush 12) 12)]), (94, [(85, rwN (.if_icmp .eq 7) 92), (88, rwL (.iconst 1) 1), (89, rwN (.goto 4) 93), (92, rwL (.iconst 0) 0), (93, rw0 .ireturn)])]
set_option maxRecDepth 100000 in
theorem cwZ_lands : am_cw sZ_lands ∈ am_gw := am_mem (i := 987) rfl rfl
set_option maxRecDepth 100000 in
theorem gdZ_lands : am_Good sZ_lands cdZ_lands := by decide +kernel
abbrev sZ_right : am_Sg := (yX11_right, cX11_right, 5, some .boolean, { frames := 5, cells := 0, slots := 0, locals := 122 })
def cdZ_right : am_Cd := [(12, [(0, rw0 (.aload_n 0)), (1, rw0 (.iload_n 1)), (2, rwC (.invokevirtual 184) 1 "" [(8, sZ_bitsAt)] [54, 957, 955, 26, 0, 0]), (5, rw0 (.istore_n 2)), (6, rw0 (.aload_n 0)), (7, rw0 (.iload_n 2)), (8, rwC (.invokevirtual 187) 1 "" [(8, sZ_kind)] [54, 862, 963, 863, 0, 0]), (11, rw0 (.istore_n 3))]), (24, [(12, rw0 (.aload_n 0)), (13, rw0 (.iload_n 3)), (14, rw0 (.iload_n 2)), (15, rwC (.invokevirtual 190) 2 "" [(8, sZ_spoils)] [54, 973, 971, 29, 0, 0]), (18, rwN (.ifCond .eq 5) 23), (21, rwL (.iconst 0) 0), (22, rw0 .ireturn), (23, rw0 (.iload_n 3))]), (40, [(24, rwL (.bipush 6) 6), (26, rwN (.if_icmp .eq 9) 35), (29, rw0 (.iload_n 3)), (30, rwL (.bipush 7) 7), (32, rwN (.if_icmp .ne 81) 113), (35, rw0 (.iload_n 3)), (36, rw0 (.iload_n 2)), (37, rwC (.invokestatic 117) 2 "" [(0, sZ_fieldB)] [54, 873, 872])]), (57, [(40, rwL (.bipush 31) 31), (42, rwN (.if_icmp .ne 15) 57), (45, rw0 (.iload_n 3)), (46, rw0 (.iload_n 2)), (47, rwC (.invokestatic 120) 2 "" [(0, sZ_fieldC)] [54, 877, 876]), (50, rwN (.ifCond .ne 7) 57), (53, rwL (.iconst 1) 1), (54, rwN (.goto 4) 58)]), (70, [(57, rwL (.iconst 0) 0), (58, rw0 (.istore 4)), (60, rw0 (.iload 4)), (62, rwN (.ifCond .eq 49) 111), (65, rw0 (.aload_n 0)), (66, rw0 (.iload_n 1)), (67, rwL (.iconst 3) 3), (68, rwL (.bipush 31) 31)]), (86, [(70, rwL (.bipush 31) 31), (72, rwL (.bipush 28) 28), (74, rwC (.invokestatic 106) 4 "" [(0, sZ_made)] [54, 846, 845]), (77, rwL (.iconst 0) 0), (78, rwC (.invokevirtual 194) 3 "" [(8, sZ_isBefore)] [54, 978, 976, 30, 0, 0]), (81, rwN (.ifCond .eq 30) 111), (84, rw0 (.aload_n 0)), (85, rw0 (.aload_n 0))]), (101, [(86, rw0 (.iload_n 1)), (87, rwC (.invokevirtual 198) 1 "" [(8, sZ_before)] [54, 982, 980, 31, 0, 0]), (90, rwL (.iconst 2) 2), (91, rwL (.bipush 31) 31), (93, rwL (.bipush 31) 31), (95, rwL (.bipush 29) 29), (97, rwC (.invokestatic 106) 4 "" [(0, sZ_made)] [54, 846, 845]), (100, rwL (.iconst 0) 0)]), (116, [(101, rwC (.invokevirtual 194) 3 "" [(8, sZ_isBefore)] [54, 978, 976, 30, 0, 0]), (104, rwN (.ifCond .eq 7) 111), (107, rwL (.iconst 1) 1), (108, rwN (.goto 4) 112), (111, rwL (.iconst 0) 0), (112, rw0 .ireturn), (113, rw0 (.iload_n 3)), (114, rwL (.bipush 12) 12)]), (131, [(116, rwN (.if_icmp .ne 45) 161), (119, rw0 (.iload_n 3)), (120, rw0 (.iload_n 2)), (121, rwC (.invokestatic 117) 2 "" [(0, sZ_fieldB)] [54, 873, 872]), (124, rwL (.bipush 31) 31), (126, rwN (.if_icmp .ne 33) 159), (129, rw0 (.iload_n 3)), (130, rw0 (.iload_n 2))]), (145, [(131, rwC (.invokestatic 120) 2 "" [(0, sZ_fieldC)] [54, 877, 876]), (134, rwN (.ifCond .ne 25) 159), (137, rw0 (.aload_n 0)), (138, rw0 (.iload_n 1)), (139, rwL (.iconst 2) 2), (140, rwL (.bipush 31) 31), (142, rwL (.iconst 0) 0), (143, rwL (.bipush 27) 27)]), (161, [(145, rwC (.invokestatic 106) 4 "" [(0, sZ_made)] [54, 846, 845]), (148, rwL (.iconst 1) 1), (149, rwC (.invokevirtual 194) 3 "" [(8, sZ_isBefore)] [54, 978, 976, 30, 0, 0]), (152, rwN (.ifCond .eq 7) 159), (155, rwL (.iconst 1) 1), (156, rwN (.goto 4) 160), (159, rwL (.iconst 0) 0), (160, rw0 .ireturn)]), (175, [(161, rw0 (.iload_n 3)), (162, rwL (.bipush 8) 8), (164, rwN (.if_icmp .lt 37) 201), (167, rw0 (.iload_n 3)), (168, rwL (.bipush 11) 11), (170, rwN (.if_icmp .gt 31) 201), (173, rw0 (.aload_n 0)), (174, rw0 (.iload_n 1))]), (190, [(175, rw0 (.iload_n 3)), (176, rwL (.bipush 11) 11), (178, rwN (.if_icmp .ne 11) 189), (181, rw0 (.iload_n 3)), (182, rw0 (.iload_n 2)), (183, rwC (.invokestatic 117) 2 "" [(0, sZ_fieldB)] [54, 873, 872]), (186, rwN (.goto 8) 194), (189, rw0 (.iload_n 3))]), (206, [(190, rw0 (.iload_n 2)), (191, rwC (.invokestatic 120) 2 "" [(0, sZ_fieldC)] [54, 877, 876]), (194, rw0 .iadd), (195, rwC (.invokevirtual 201) 1 "" [(8, sZ_lands)] [54, 986, 984, 32, 0, 0]), (198, rwN (.ifCond .eq 7) 205), (201, rwL (.iconst 1) 1), (202, rwN (.goto 4) 206), (205, rwL (.iconst 0) 0)]), (207, [(206, rw0 .ireturn)])]
set_option maxRecDepth 100000 in
theorem cwZ_right : am_cw sZ_right ∈ am_gw := am_mem (i := 970) rfl rfl
set_option maxRecDepth 100000 in
theorem gdZ_right : am_Good sZ_right cdZ_right := by decide +kernel
abbrev sZ_check : am_Sg := (yX11_check, cX11_check, 3, some .int, { frames := 6, cells := 0, slots := 0, locals := 146 })
def cdZ_check : am_Cd := [(16, [(0, rw0 (.aload_n 0)), (1, rwF (.getfield 170) 14 0 "FencedCodeModel" [8] [757, 0]), (4, rwL (.bipush 16) 16), (6, rw0 .irem), (7, rwN (.ifCond .ne 12) 19), (10, rw0 (.aload_n 0)), (11, rwF (.getfield 170) 14 0 "FencedCodeModel" [8] [757, 0]), (14, rwL (.bipush 48) 48)]), (31, [(16, rwN (.if_icmp .gt 6) 22), (19, rwL (.bipush 48) 48), (21, rw0 .ireturn), (22, rwL (.iconst 0) 0), (23, rw0 (.istore_n 1)), (24, rw0 (.iload_n 1)), (25, rwL (.sipush 256) 256), (28, rwN (.if_icmp .ge 16) 44)]), (46, [(31, rw0 (.aload_n 0)), (32, rwF (.getfield 46) 16 2 "FencedCodeModel" [8] [759, 0]), (35, rw0 (.iload_n 1)), (36, rwL (.iconst 0) 0), (37, rw0 .bastore), (38, rwL (.iinc 1 1) 1), (41, rwN (.goto (-17)) 24), (44, rwL (.bipush 48) 48)]), (60, [(46, rw0 (.istore_n 1)), (47, rw0 (.iload_n 1)), (48, rw0 (.aload_n 0)), (49, rwF (.getfield 170) 14 0 "FencedCodeModel" [8] [757, 0]), (52, rwN (.if_icmp .ge 50) 102), (55, rw0 (.aload_n 0)), (56, rwF (.getfield 46) 16 2 "FencedCodeModel" [8] [759, 0]), (59, rw0 (.iload_n 1))]), (70, [(60, rwL (.iconst 1) 1), (61, rw0 .bastore), (62, rw0 (.aload_n 0)), (63, rw0 (.iload_n 1)), (64, rwC (.invokevirtual 184) 1 "" [(8, sZ_bitsAt)] [54, 957, 955, 26, 0, 0]), (67, rw0 (.istore_n 2)), (68, rw0 (.aload_n 0)), (69, rw0 (.iload_n 2))]), (85, [(70, rwC (.invokevirtual 187) 1 "" [(8, sZ_kind)] [54, 862, 963, 863, 0, 0]), (73, rwN (.ifCond .lt 17) 90), (76, rw0 (.iload_n 1)), (77, rwL (.bipush 16) 16), (79, rw0 .irem), (80, rw0 (.iload_n 2)), (81, rwC (.invokestatic 204) 1 "" [(0, sZ_bytesOf)] [54, 965, 964]), (84, rw0 .iadd)]), (98, [(85, rwL (.bipush 16) 16), (87, rwN (.if_icmp .le 5) 92), (90, rw0 (.iload_n 1)), (91, rw0 .ireturn), (92, rw0 (.iload_n 1)), (93, rw0 (.iload_n 2)), (94, rwC (.invokestatic 204) 1 "" [(0, sZ_bytesOf)] [54, 965, 964]), (97, rw0 .iadd)]), (113, [(98, rw0 (.istore_n 1)), (99, rwN (.goto (-52)) 47), (102, rwL (.bipush 48) 48), (104, rw0 (.istore_n 1)), (105, rw0 (.iload_n 1)), (106, rw0 (.aload_n 0)), (107, rwF (.getfield 170) 14 0 "FencedCodeModel" [8] [757, 0]), (110, rwN (.if_icmp .ge 28) 138)]), (127, [(113, rw0 (.aload_n 0)), (114, rwF (.getfield 46) 16 2 "FencedCodeModel" [8] [759, 0]), (117, rw0 (.iload_n 1)), (118, rw0 .baload), (119, rwN (.ifCond .eq 13) 132), (122, rw0 (.aload_n 0)), (123, rw0 (.iload_n 1)), (124, rwC (.invokevirtual 207) 1 "" [(8, sZ_right)] [54, 969, 967, 28, 0, 0])]), (140, [(127, rwN (.ifCond .ne 5) 132), (130, rw0 (.iload_n 1)), (131, rw0 .ireturn), (132, rwL (.iinc 1 1) 1), (135, rwN (.goto (-30)) 105), (138, rwL (.iconst (-1)) (-1)), (139, rw0 .ireturn)])]
set_option maxRecDepth 100000 in
theorem cwZ_check : am_cw sZ_check ∈ am_gw := am_mem (i := 954) rfl rfl
set_option maxRecDepth 100000 in
theorem gdZ_check : am_Good sZ_check cdZ_check := by decide +kernel
abbrev sZ_input : am_Sg := (yX11_input, cX11_input, 2, some .int, { frames := 0, cells := 0, slots := 0, locals := 0 })
def cdZ_input : am_Cd := [(16, [(0, rw0 (.aload_n 0)), (1, rwF (.getfield 210) 18 0 "FencedCodeModel" [8] [761, 0]), (4, rwL (.bipush 20) 20), (6, rwN (.if_icmp .ne 6) 12), (9, rwL (.bipush (-2)) (-2)), (11, rw0 .ireturn), (12, rw0 (.aload_n 0)), (13, rwF (.getfield 50) 19 2 "FencedCodeModel" [8] [762, 0])]), (28, [(16, rw0 (.aload_n 0)), (17, rwF (.getfield 210) 18 0 "FencedCodeModel" [8] [761, 0]), (20, rw0 (.iload_n 1)), (21, rw0 .iastore), (22, rw0 (.aload_n 0)), (23, rw0 .dup), (24, rwF (.getfield 210) 18 0 "FencedCodeModel" [8] [761, 0]), (27, rwL (.iconst 1) 1)]), (37, [(28, rw0 .iadd), (29, rwF (.putfield 210) 18 0 "FencedCodeModel" [8] [761, 0]), (32, rw0 (.aload_n 0)), (33, rwF (.getfield 210) 18 0 "FencedCodeModel" [8] [761, 0]), (36, rw0 .ireturn)])]
set_option maxRecDepth 100000 in
theorem cwZ_input : am_cw sZ_input ∈ am_gw := am_mem (i := 991) rfl rfl
set_option maxRecDepth 100000 in
theorem gdZ_input : am_Good sZ_input cdZ_input := by decide +kernel
abbrev sZ_anew : am_Sg := (yX11_anew, cX11_anew, 3, none, { frames := 0, cells := 0, slots := 0, locals := 0 })
def cdZ_anew : am_Cd := [(14, [(0, rwL (.iconst 0) 0), (1, rw0 (.istore_n 2)), (2, rw0 (.iload_n 2)), (3, rwL (.bipush 32) 32), (5, rwN (.if_icmp .ge 21) 26), (8, rw0 (.aload_n 0)), (9, rwF (.getfield 53) 20 2 "FencedCodeModel" [8] [763, 0]), (12, rwL (.bipush 32) 32)]), (26, [(14, rw0 (.iload_n 1)), (15, rw0 .imul), (16, rw0 (.iload_n 2)), (17, rw0 .iadd), (18, rwL (.iconst 0) 0), (19, rw0 .iastore), (20, rwL (.iinc 2 1) 1), (23, rwN (.goto (-21)) 2)]), (40, [(26, rwL (.iconst 0) 0), (27, rw0 (.istore_n 2)), (28, rw0 (.iload_n 2)), (29, rwL (.bipush 16) 16), (31, rwN (.if_icmp .ge 21) 52), (34, rw0 (.aload_n 0)), (35, rwF (.getfield 56) 21 2 "FencedCodeModel" [8] [764, 0]), (38, rwL (.bipush 16) 16)]), (52, [(40, rw0 (.iload_n 1)), (41, rw0 .imul), (42, rw0 (.iload_n 2)), (43, rw0 .iadd), (44, rwL (.iconst 0) 0), (45, rw0 .iastore), (46, rwL (.iinc 2 1) 1), (49, rwN (.goto (-21)) 28)]), (64, [(52, rw0 (.aload_n 0)), (53, rwF (.getfield 62) 23 2 "FencedCodeModel" [8] [766, 0]), (56, rw0 (.iload_n 1)), (57, rwL (.iconst 0) 0), (58, rw0 .iastore), (59, rw0 (.aload_n 0)), (60, rwF (.getfield 65) 24 2 "FencedCodeModel" [8] [767, 0]), (63, rw0 (.iload_n 1))]), (74, [(64, rwL (.iconst 0) 0), (65, rw0 .iastore), (66, rw0 (.aload_n 0)), (67, rwF (.getfield 71) 26 2 "FencedCodeModel" [8] [769, 0]), (70, rw0 (.iload_n 1)), (71, rwL (.iconst 1) 1), (72, rw0 .bastore), (73, rw0 (.aload_n 0))]), (79, [(74, rwL (.iconst 0) 0), (75, rwF (.putfield 213) 27 0 "FencedCodeModel" [8] [770, 0]), (78, rw0 .return_)])]
set_option maxRecDepth 100000 in
theorem cwZ_anew : am_cw sZ_anew ∈ am_gw := am_mem (i := 999) rfl rfl
set_option maxRecDepth 100000 in
theorem gdZ_anew : am_Good sZ_anew cdZ_anew := by decide +kernel
abbrev sZ_set : am_Sg := (yX11_set, cX11_set, 4, none, { frames := 0, cells := 0, slots := 0, locals := 0 })
def cdZ_set : am_Cd := [(11, [(0, rw0 (.aload_n 0)), (1, rwF (.getfield 53) 20 2 "FencedCodeModel" [8] [763, 0]), (4, rwL (.bipush 32) 32), (6, rw0 (.iload_n 1)), (7, rw0 .imul), (8, rw0 (.iload_n 2)), (9, rw0 .iadd), (10, rw0 (.iload_n 2))]), (21, [(11, rwN (.ifCond .ne 7) 18), (14, rwL (.iconst 0) 0), (15, rwN (.goto 4) 19), (18, rw0 (.iload_n 3)), (19, rw0 .iastore), (20, rw0 .return_)])]
set_option maxRecDepth 100000 in
theorem cwZ_set : am_cw sZ_set ∈ am_gw := am_mem (i := 1003) rfl rfl
set_option maxRecDepth 100000 in
theorem gdZ_set : am_Good sZ_set cdZ_set := by decide +kernel
abbrev sZ_get : am_Sg := (yX11_get, cX11_get, 3, some .int, { frames := 0, cells := 0, slots := 0, locals := 0 })
def cdZ_get : am_Cd := [(11, [(0, rw0 (.aload_n 0)), (1, rwF (.getfield 53) 20 2 "FencedCodeModel" [8] [763, 0]), (4, rwL (.bipush 32) 32), (6, rw0 (.iload_n 1)), (7, rw0 .imul), (8, rw0 (.iload_n 2)), (9, rw0 .iadd), (10, rw0 .iaload)]), (12, [(11, rw0 .ireturn)])]
set_option maxRecDepth 100000 in
theorem cwZ_get : am_cw sZ_get ∈ am_gw := am_mem (i := 1015) rfl rfl
set_option maxRecDepth 100000 in
theorem gdZ_get : am_Good sZ_get cdZ_get := by decide +kernel
abbrev sZ_serve : am_Sg := (yX11_serve, cX11_serve, 3, none, { frames := 1, cells := 0, slots := 0, locals := 23 })
def cdZ_serve : am_Cd := [(13, [(0, rw0 (.iload_n 2)), (1, rwN (.ifCond .ne 65) 66), (4, rw0 (.aload_n 0)), (5, rw0 (.iload_n 1)), (6, rwL (.bipush 10) 10), (8, rw0 (.aload_n 0)), (9, rwF (.getfield 213) 27 0 "FencedCodeModel" [8] [770, 0]), (12, rw0 (.aload_n 0))]), (31, [(13, rwF (.getfield 210) 18 0 "FencedCodeModel" [8] [761, 0]), (16, rwN (.if_icmp .ge 15) 31), (19, rw0 (.aload_n 0)), (20, rwF (.getfield 50) 19 2 "FencedCodeModel" [8] [762, 0]), (23, rw0 (.aload_n 0)), (24, rwF (.getfield 213) 27 0 "FencedCodeModel" [8] [770, 0]), (27, rw0 .iaload), (28, rwN (.goto 4) 32)]), (47, [(31, rwL (.iconst (-1)) (-1)), (32, rwC (.invokevirtual 216) 3 "" [(8, sZ_set)] [54, 1002, 1000, 34, 0, 0]), (35, rw0 (.aload_n 0)), (36, rw0 (.aload_n 0)), (37, rwF (.getfield 213) 27 0 "FencedCodeModel" [8] [770, 0]), (40, rw0 (.aload_n 0)), (41, rwF (.getfield 210) 18 0 "FencedCodeModel" [8] [761, 0]), (44, rwN (.if_icmp .ge 12) 56)]), (63, [(47, rw0 (.aload_n 0)), (48, rwF (.getfield 213) 27 0 "FencedCodeModel" [8] [770, 0]), (51, rwL (.iconst 1) 1), (52, rw0 .iadd), (53, rwN (.goto 7) 60), (56, rw0 (.aload_n 0)), (57, rwF (.getfield 213) 27 0 "FencedCodeModel" [8] [770, 0]), (60, rwF (.putfield 213) 27 0 "FencedCodeModel" [8] [770, 0])]), (78, [(63, rwN (.goto 47) 110), (66, rw0 (.aload_n 0)), (67, rwF (.getfield 62) 23 2 "FencedCodeModel" [8] [766, 0]), (70, rw0 (.iload_n 1)), (71, rw0 .iaload), (72, rwL (.bipush 40) 40), (74, rwN (.if_icmp .ge 36) 110), (77, rw0 (.aload_n 0))]), (91, [(78, rwF (.getfield 59) 22 2 "FencedCodeModel" [8] [765, 0]), (81, rwL (.bipush 40) 40), (83, rw0 (.iload_n 1)), (84, rw0 .imul), (85, rw0 (.aload_n 0)), (86, rwF (.getfield 62) 23 2 "FencedCodeModel" [8] [766, 0]), (89, rw0 (.iload_n 1)), (90, rw0 .iaload)]), (104, [(91, rw0 .iadd), (92, rw0 (.aload_n 0)), (93, rw0 (.iload_n 1)), (94, rwL (.bipush 10) 10), (96, rwC (.invokevirtual 220) 2 "" [(8, sZ_get)] [54, 1014, 1012, 37, 0, 0]), (99, rw0 .iastore), (100, rw0 (.aload_n 0)), (101, rwF (.getfield 62) 23 2 "FencedCodeModel" [8] [766, 0])]), (111, [(104, rw0 (.iload_n 1)), (105, rw0 .dup2), (106, rw0 .iaload), (107, rwL (.iconst 1) 1), (108, rw0 .iadd), (109, rw0 .iastore), (110, rw0 .return_)])]
set_option maxRecDepth 100000 in
theorem cwZ_serve : am_cw sZ_serve ∈ am_gw := am_mem (i := 1011) rfl rfl
set_option maxRecDepth 100000 in
theorem gdZ_serve : am_Good sZ_serve cdZ_serve := by decide +kernel
abbrev sZ_reckon : am_Sg := (yX11_reckon, cX11_reckon, 8, none, { frames := 1, cells := 0, slots := 0, locals := 23 })
def cdZ_reckon : am_Cd := [(12, [(0, rw0 (.iload_n 2)), (1, rwL (.iconst 5) 5), (2, rwN (.if_icmp .ne 17) 19), (5, rw0 (.aload_n 0)), (6, rw0 (.iload_n 1)), (7, rw0 (.iload_n 3)), (8, rw0 (.iload 4)), (10, rwL (.bipush 12) 12)]), (27, [(12, rw0 .ishl), (13, rwC (.invokevirtual 216) 3 "" [(8, sZ_set)] [54, 1002, 1000, 34, 0, 0]), (16, rwN (.goto 131) 147), (19, rw0 (.iload_n 2)), (20, rwL (.bipush 13) 13), (22, rwN (.if_icmp .ne 21) 43), (25, rw0 (.aload_n 0)), (26, rw0 (.iload_n 1))]), (40, [(27, rw0 (.iload_n 3)), (28, rw0 (.aload_n 0)), (29, rw0 (.iload_n 1)), (30, rw0 (.iload_n 3)), (31, rwC (.invokevirtual 220) 2 "" [(8, sZ_get)] [54, 1014, 1012, 37, 0, 0]), (34, rw0 (.iload 4)), (36, rw0 .iadd), (37, rwC (.invokevirtual 216) 3 "" [(8, sZ_set)] [54, 1002, 1000, 34, 0, 0])]), (53, [(40, rwN (.goto 107) 147), (43, rw0 (.iload_n 2)), (44, rwL (.bipush 14) 14), (46, rwN (.if_icmp .ne 19) 65), (49, rw0 (.aload_n 0)), (50, rw0 (.iload_n 1)), (51, rw0 (.iload_n 3)), (52, rw0 (.aload_n 0))]), (69, [(53, rw0 (.iload_n 1)), (54, rw0 (.iload 4)), (56, rwC (.invokevirtual 220) 2 "" [(8, sZ_get)] [54, 1014, 1012, 37, 0, 0]), (59, rwC (.invokevirtual 216) 3 "" [(8, sZ_set)] [54, 1002, 1000, 34, 0, 0]), (62, rwN (.goto 85) 147), (65, rw0 (.aload_n 0)), (66, rw0 (.iload_n 1)), (67, rw0 (.iload 4))]), (85, [(69, rwC (.invokevirtual 220) 2 "" [(8, sZ_get)] [54, 1014, 1012, 37, 0, 0]), (72, rw0 (.istore 6)), (74, rw0 (.iload_n 2)), (75, rwL (.iconst 4) 4), (76, rwN (.if_icmp .ne 8) 84), (79, rw0 (.iload 5)), (81, rwN (.goto 10) 91), (84, rw0 (.aload_n 0))]), (97, [(85, rw0 (.iload_n 1)), (86, rw0 (.iload 5)), (88, rwC (.invokevirtual 220) 2 "" [(8, sZ_get)] [54, 1014, 1012, 37, 0, 0]), (91, rw0 (.istore 7)), (93, rw0 (.aload_n 0)), (94, rw0 (.iload_n 1)), (95, rw0 (.iload_n 3)), (96, rw0 (.iload_n 2))]), (113, [(97, rwN (.ifCond .eq 8) 105), (100, rw0 (.iload_n 2)), (101, rwL (.iconst 4) 4), (102, rwN (.if_icmp .ne 11) 113), (105, rw0 (.iload 6)), (107, rw0 (.iload 7)), (109, rw0 .iadd), (110, rwN (.goto 34) 144)]), (127, [(113, rw0 (.iload_n 2)), (114, rwL (.iconst 1) 1), (115, rwN (.if_icmp .ne 11) 126), (118, rw0 (.iload 6)), (120, rw0 (.iload 7)), (122, rw0 .isub), (123, rwN (.goto 21) 144), (126, rw0 (.iload_n 2))]), (143, [(127, rwL (.iconst 2) 2), (128, rwN (.if_icmp .ne 11) 139), (131, rw0 (.iload 6)), (133, rw0 (.iload 7)), (135, rw0 .iand), (136, rwN (.goto 8) 144), (139, rw0 (.iload 6)), (141, rw0 (.iload 7))]), (148, [(143, rw0 .ior), (144, rwC (.invokevirtual 216) 3 "" [(8, sZ_set)] [54, 1002, 1000, 34, 0, 0]), (147, rw0 .return_)])]
set_option maxRecDepth 100000 in
theorem cwZ_reckon : am_cw sZ_reckon ∈ am_gw := am_mem (i := 1027) rfl rfl
set_option maxRecDepth 100000 in
theorem gdZ_reckon : am_Good sZ_reckon cdZ_reckon := by decide +kernel
abbrev sZ_holds : am_Sg := (yX11_holds, cX11_holds, 7, some .boolean, { frames := 1, cells := 0, slots := 0, locals := 22 })
def cdZ_holds : am_Cd := [(12, [(0, rw0 (.aload_n 0)), (1, rw0 (.iload_n 1)), (2, rw0 (.iload_n 3)), (3, rwC (.invokevirtual 220) 2 "" [(8, sZ_get)] [54, 1014, 1012, 37, 0, 0]), (6, rw0 (.istore 5)), (8, rw0 (.aload_n 0)), (9, rw0 (.iload_n 1)), (10, rw0 (.iload 4))]), (30, [(12, rwC (.invokevirtual 220) 2 "" [(8, sZ_get)] [54, 1014, 1012, 37, 0, 0]), (15, rw0 (.istore 6)), (17, rw0 (.iload_n 2)), (18, rwL (.bipush 8) 8), (20, rwN (.if_icmp .ne 18) 38), (23, rw0 (.iload 5)), (25, rw0 (.iload 6)), (27, rwN (.if_icmp .ne 7) 34)]), (46, [(30, rwL (.iconst 1) 1), (31, rwN (.goto 40) 71), (34, rwL (.iconst 0) 0), (35, rwN (.goto 36) 71), (38, rw0 (.iload_n 2)), (39, rwL (.bipush 9) 9), (41, rwN (.if_icmp .ne 18) 59), (44, rw0 (.iload 5))]), (63, [(46, rw0 (.iload 6)), (48, rwN (.if_icmp .eq 7) 55), (51, rwL (.iconst 1) 1), (52, rwN (.goto 19) 71), (55, rwL (.iconst 0) 0), (56, rwN (.goto 15) 71), (59, rw0 (.iload 5)), (61, rw0 (.iload 6))]), (72, [(63, rwN (.if_icmp .ge 7) 70), (66, rwL (.iconst 1) 1), (67, rwN (.goto 4) 71), (70, rwL (.iconst 0) 0), (71, rw0 .ireturn)])]
set_option maxRecDepth 100000 in
theorem cwZ_holds : am_cw sZ_holds ∈ am_gw := am_mem (i := 1023) rfl rfl
set_option maxRecDepth 100000 in
theorem gdZ_holds : am_Good sZ_holds cdZ_holds := by decide +kernel
abbrev sZ_moved : am_Sg := (yX11_moved, cX11_moved, 7, some .boolean, { frames := 1, cells := 0, slots := 0, locals := 23 })
def cdZ_moved : am_Cd := [(14, [(0, rw0 (.aload_n 0)), (1, rw0 (.iload_n 1)), (2, rw0 (.iload 4)), (4, rwC (.invokevirtual 220) 2 "" [(8, sZ_get)] [54, 1014, 1012, 37, 0, 0]), (7, rw0 (.iload 5)), (9, rw0 .iadd), (10, rwL (.sipush 4096) 4096), (13, rw0 .isub)]), (31, [(14, rw0 (.istore 6)), (16, rw0 (.iload 6)), (18, rwN (.ifCond .lt 17) 35), (21, rw0 (.iload 6)), (23, rwL (.bipush 63) 63), (25, rwN (.if_icmp .gt 10) 35), (28, rw0 (.iload 6)), (30, rwL (.iconst 4) 4)]), (44, [(31, rw0 .irem), (32, rwN (.ifCond .eq 5) 37), (35, rwL (.iconst 0) 0), (36, rw0 .ireturn), (37, rw0 (.iload_n 2)), (38, rwL (.bipush 6) 6), (40, rwN (.if_icmp .ne 26) 66), (43, rw0 (.aload_n 0))]), (56, [(44, rw0 (.iload_n 1)), (45, rw0 (.iload_n 3)), (46, rw0 (.aload_n 0)), (47, rwF (.getfield 56) 21 2 "FencedCodeModel" [8] [764, 0]), (50, rwL (.bipush 16) 16), (52, rw0 (.iload_n 1)), (53, rw0 .imul), (54, rw0 (.iload 6))]), (70, [(56, rwL (.iconst 4) 4), (57, rw0 .idiv), (58, rw0 .iadd), (59, rw0 .iaload), (60, rwC (.invokevirtual 216) 3 "" [(8, sZ_set)] [54, 1002, 1000, 34, 0, 0]), (63, rwN (.goto 23) 86), (66, rw0 (.aload_n 0)), (67, rwF (.getfield 56) 21 2 "FencedCodeModel" [8] [764, 0])]), (80, [(70, rwL (.bipush 16) 16), (72, rw0 (.iload_n 1)), (73, rw0 .imul), (74, rw0 (.iload 6)), (76, rwL (.iconst 4) 4), (77, rw0 .idiv), (78, rw0 .iadd), (79, rw0 (.aload_n 0))]), (88, [(80, rw0 (.iload_n 1)), (81, rw0 (.iload_n 3)), (82, rwC (.invokevirtual 220) 2 "" [(8, sZ_get)] [54, 1014, 1012, 37, 0, 0]), (85, rw0 .iastore), (86, rwL (.iconst 1) 1), (87, rw0 .ireturn)])]
set_option maxRecDepth 100000 in
theorem cwZ_moved : am_cw sZ_moved ∈ am_gw := am_mem (i := 1019) rfl rfl
set_option maxRecDepth 100000 in
theorem gdZ_moved : am_Good sZ_moved cdZ_moved := by decide +kernel
abbrev sZ_step : am_Sg := (yX11_step, cX11_step, 9, some .int, { frames := 4, cells := 0, slots := 0, locals := 99 })
def cdZ_step : am_Cd := [(12, [(0, rw0 (.aload_n 0)), (1, rwF (.getfield 68) 25 2 "FencedCodeModel" [8] [768, 0]), (4, rwL (.iconst 0) 0), (5, rw0 .iaload), (6, rw0 (.istore_n 1)), (7, rw0 (.iload_n 1)), (8, rwN (.ifCond .eq 9) 17), (11, rw0 (.iload_n 1))]), (26, [(12, rwL (.bipush 16) 16), (14, rwN (.if_icmp .ne 30) 44), (17, rw0 (.aload_n 0)), (18, rwL (.iconst 0) 0), (19, rw0 (.iload_n 1)), (20, rwL (.bipush 16) 16), (22, rw0 .idiv), (23, rwC (.invokevirtual 223) 2 "" [(8, sZ_serve)] [54, 1010, 1008, 36, 0, 0])]), (40, [(26, rw0 (.aload_n 0)), (27, rwF (.getfield 68) 25 2 "FencedCodeModel" [8] [768, 0]), (30, rwL (.iconst 0) 0), (31, rw0 (.aload_n 0)), (32, rwL (.iconst 0) 0), (33, rwL (.iconst 1) 1), (34, rwC (.invokevirtual 220) 2 "" [(8, sZ_get)] [54, 1014, 1012, 37, 0, 0]), (37, rwL (.sipush 240) 240)]), (51, [(40, rw0 .iand), (41, rw0 .iastore), (42, rwL (.iconst 0) 0), (43, rw0 .ireturn), (44, rw0 (.iload_n 1)), (45, rwL (.bipush 32) 32), (47, rwN (.if_icmp .ne 5) 52), (50, rwL (.iconst 1) 1)]), (66, [(51, rw0 .ireturn), (52, rw0 (.iload_n 1)), (53, rwL (.bipush 48) 48), (55, rwN (.if_icmp .lt 17) 72), (58, rw0 (.iload_n 1)), (59, rw0 (.aload_n 0)), (60, rwF (.getfield 170) 14 0 "FencedCodeModel" [8] [757, 0]), (63, rwN (.if_icmp .ge 9) 72)]), (76, [(66, rw0 (.iload_n 1)), (67, rwL (.iconst 2) 2), (68, rw0 .irem), (69, rwN (.ifCond .eq 5) 74), (72, rwL (.iconst 2) 2), (73, rw0 .ireturn), (74, rw0 (.aload_n 0)), (75, rw0 (.iload_n 1))]), (90, [(76, rwC (.invokevirtual 184) 1 "" [(8, sZ_bitsAt)] [54, 957, 955, 26, 0, 0]), (79, rw0 (.istore_n 2)), (80, rw0 (.aload_n 0)), (81, rw0 (.iload_n 2)), (82, rwC (.invokevirtual 187) 1 "" [(8, sZ_kind)] [54, 862, 963, 863, 0, 0]), (85, rw0 (.istore_n 3)), (86, rw0 (.iload_n 2)), (87, rwC (.invokestatic 204) 1 "" [(0, sZ_bytesOf)] [54, 965, 964])]), (104, [(90, rw0 (.istore 4)), (92, rw0 (.iload_n 1)), (93, rw0 (.iload 4)), (95, rw0 .iadd), (96, rw0 (.aload_n 0)), (97, rwF (.getfield 170) 14 0 "FencedCodeModel" [8] [757, 0]), (100, rwN (.if_icmp .gt 7) 107), (103, rw0 (.iload_n 3))]), (117, [(104, rwN (.ifCond .ge 5) 109), (107, rwL (.iconst 3) 3), (108, rw0 .ireturn), (109, rw0 (.iload_n 3)), (110, rw0 (.iload_n 2)), (111, rwC (.invokestatic 114) 2 "" [(0, sZ_fieldA)] [54, 870, 869]), (114, rw0 (.istore 5)), (116, rw0 (.iload_n 3))]), (131, [(117, rw0 (.iload_n 2)), (118, rwC (.invokestatic 117) 2 "" [(0, sZ_fieldB)] [54, 873, 872]), (121, rw0 (.istore 6)), (123, rw0 (.iload_n 3)), (124, rw0 (.iload_n 2)), (125, rwC (.invokestatic 120) 2 "" [(0, sZ_fieldC)] [54, 877, 876]), (128, rw0 (.istore 7)), (130, rw0 (.iload_n 1))]), (145, [(131, rw0 (.iload 4)), (133, rw0 .iadd), (134, rw0 (.istore 8)), (136, rw0 (.iload_n 3)), (137, rwL (.bipush 6) 6), (139, rwN (.if_icmp .eq 9) 148), (142, rw0 (.iload_n 3)), (143, rwL (.bipush 7) 7)]), (160, [(145, rwN (.if_icmp .ne 20) 165), (148, rw0 (.aload_n 0)), (149, rwL (.iconst 0) 0), (150, rw0 (.iload_n 3)), (151, rw0 (.iload 5)), (153, rw0 (.iload 6)), (155, rw0 (.iload 7)), (157, rwC (.invokevirtual 226) 5 "" [(8, sZ_moved)] [54, 1018, 1016, 38, 0, 0])]), (174, [(160, rwN (.ifCond .ne 110) 270), (163, rwL (.iconst 4) 4), (164, rw0 .ireturn), (165, rw0 (.iload_n 3)), (166, rwL (.bipush 8) 8), (168, rwN (.if_icmp .lt 36) 204), (171, rw0 (.iload_n 3)), (172, rwL (.bipush 10) 10)]), (190, [(174, rwN (.if_icmp .gt 30) 204), (177, rw0 (.aload_n 0)), (178, rwL (.iconst 0) 0), (179, rw0 (.iload_n 3)), (180, rw0 (.iload 5)), (182, rw0 (.iload 6)), (184, rwC (.invokevirtual 230) 4 "" [(8, sZ_holds)] [54, 1022, 1020, 39, 0, 0]), (187, rwN (.ifCond .eq 10) 197)]), (205, [(190, rw0 (.iload_n 1)), (191, rw0 (.iload 7)), (193, rw0 .iadd), (194, rwN (.goto 5) 199), (197, rw0 (.iload 8)), (199, rw0 (.istore 8)), (201, rwN (.goto 69) 270), (204, rw0 (.iload_n 3))]), (222, [(205, rwL (.bipush 11) 11), (207, rwN (.if_icmp .eq 9) 216), (210, rw0 (.iload_n 3)), (211, rwL (.bipush 12) 12), (213, rwN (.if_icmp .ne 45) 258), (216, rw0 (.iload_n 3)), (217, rwL (.bipush 11) 11), (219, rwN (.if_icmp .ne 10) 229)]), (236, [(222, rw0 (.iload_n 1)), (223, rw0 (.iload 6)), (225, rw0 .iadd), (226, rwN (.goto 16) 242), (229, rw0 (.aload_n 0)), (230, rwL (.iconst 0) 0), (231, rw0 (.iload 6)), (233, rwC (.invokevirtual 220) 2 "" [(8, sZ_get)] [54, 1014, 1012, 37, 0, 0])]), (248, [(236, rw0 (.iload 7)), (238, rw0 .iadd), (239, rwL (.bipush (-2)) (-2)), (241, rw0 .iand), (242, rw0 (.istore 8)), (244, rw0 (.aload_n 0)), (245, rwL (.iconst 0) 0), (246, rw0 (.iload 5))]), (261, [(248, rw0 (.iload_n 1)), (249, rw0 (.iload 4)), (251, rw0 .iadd), (252, rwC (.invokevirtual 216) 3 "" [(8, sZ_set)] [54, 1002, 1000, 34, 0, 0]), (255, rwN (.goto 15) 270), (258, rw0 (.aload_n 0)), (259, rwL (.iconst 0) 0), (260, rw0 (.iload_n 3))]), (277, [(261, rw0 (.iload 5)), (263, rw0 (.iload 6)), (265, rw0 (.iload 7)), (267, rwC (.invokevirtual 233) 5 "" [(8, sZ_reckon)] [54, 1026, 1024, 40, 0, 0]), (270, rw0 (.aload_n 0)), (271, rwF (.getfield 68) 25 2 "FencedCodeModel" [8] [768, 0]), (274, rwL (.iconst 0) 0), (275, rw0 (.iload 8))]), (280, [(277, rw0 .iastore), (278, rwL (.iconst 0) 0), (279, rw0 .ireturn)])]
set_option maxRecDepth 100000 in
theorem cwZ_step : am_cw sZ_step ∈ am_gw := am_mem (i := 1007) rfl rfl
set_option maxRecDepth 100000 in
theorem gdZ_step : am_Good sZ_step cdZ_step := by decide +kernel
abbrev sZ_run : am_Sg := (yX11_run, cX11_run, 3, some .int, { frames := 5, cells := 0, slots := 0, locals := 127 })
def cdZ_run : am_Cd := [(14, [(0, rw0 (.iload_n 1)), (1, rwL (.iconst 0) 0), (2, rwL (.sipush 2000) 2000), (5, rwC (.invokestatic 82) 3 "" [(0, sZ_outside)] [54, 834, 833]), (8, rwN (.ifCond .eq 5) 13), (11, rwL (.iconst (-1)) (-1)), (12, rw0 .ireturn), (13, rw0 (.aload_n 0))]), (29, [(14, rwL (.iconst 0) 0), (15, rwC (.invokevirtual 237) 1 "" [(8, sZ_anew)] [54, 998, 996, 33, 0, 0]), (18, rw0 (.aload_n 0)), (19, rwL (.iconst 0) 0), (20, rwL (.bipush 27) 27), (22, rwL (.sipush 240) 240), (25, rwC (.invokevirtual 216) 3 "" [(8, sZ_set)] [54, 1002, 1000, 34, 0, 0]), (28, rw0 (.aload_n 0))]), (44, [(29, rwL (.iconst 0) 0), (30, rwL (.bipush 28) 28), (32, rwL (.sipush 4096) 4096), (35, rwC (.invokevirtual 216) 3 "" [(8, sZ_set)] [54, 1002, 1000, 34, 0, 0]), (38, rw0 (.aload_n 0)), (39, rwL (.iconst 0) 0), (40, rwL (.bipush 29) 29), (42, rwL (.bipush 60) 60)]), (57, [(44, rwC (.invokevirtual 216) 3 "" [(8, sZ_set)] [54, 1002, 1000, 34, 0, 0]), (47, rw0 (.aload_n 0)), (48, rwF (.getfield 68) 25 2 "FencedCodeModel" [8] [768, 0]), (51, rwL (.iconst 0) 0), (52, rwL (.bipush 48) 48), (54, rw0 .iastore), (55, rwL (.iconst 0) 0), (56, rw0 (.istore_n 2))]), (71, [(57, rw0 (.iload_n 2)), (58, rwN (.ifCond .ne 53) 111), (61, rw0 (.aload_n 0)), (62, rwF (.getfield 65) 24 2 "FencedCodeModel" [8] [767, 0]), (65, rwL (.iconst 0) 0), (66, rw0 .iaload), (67, rw0 (.iload_n 1)), (68, rwN (.if_icmp .ge 43) 111)]), (85, [(71, rw0 (.aload_n 0)), (72, rwC (.invokevirtual 240) 0 "" [(8, sZ_step)] [54, 1006, 1004, 35, 0, 0]), (75, rw0 (.istore_n 2)), (76, rw0 (.aload_n 0)), (77, rwF (.getfield 65) 24 2 "FencedCodeModel" [8] [767, 0]), (80, rwL (.iconst 0) 0), (81, rw0 (.iload_n 2)), (82, rwN (.ifCond .eq 8) 90)]), (97, [(85, rw0 (.iload_n 2)), (86, rwL (.iconst 1) 1), (87, rwN (.if_icmp .ne 14) 101), (90, rw0 (.aload_n 0)), (91, rwF (.getfield 65) 24 2 "FencedCodeModel" [8] [767, 0]), (94, rwL (.iconst 0) 0), (95, rw0 .iaload), (96, rwL (.iconst 1) 1)]), (111, [(97, rw0 .iadd), (98, rwN (.goto 9) 107), (101, rw0 (.aload_n 0)), (102, rwF (.getfield 65) 24 2 "FencedCodeModel" [8] [767, 0]), (105, rwL (.iconst 0) 0), (106, rw0 .iaload), (107, rw0 .iastore), (108, rwN (.goto (-51)) 57)]), (113, [(111, rw0 (.iload_n 2)), (112, rw0 .ireturn)])]
set_option maxRecDepth 100000 in
theorem cwZ_run : am_cw sZ_run ∈ am_gw := am_mem (i := 995) rfl rfl
set_option maxRecDepth 100000 in
theorem gdZ_run : am_Good sZ_run cdZ_run := by decide +kernel
abbrev sZ_lineAt : am_Sg := (yX11_lineAt, cX11_lineAt, 3, some .int, { frames := 0, cells := 0, slots := 0, locals := 0 })
def cdZ_lineAt : am_Cd := [(13, [(0, rwL (.iconst 0) 0), (1, rw0 (.istore_n 2)), (2, rw0 (.iload_n 2)), (3, rw0 (.aload_n 0)), (4, rwF (.getfield 173) 5 0 "FencedCodeModel" [8] [748, 0]), (7, rwN (.if_icmp .gt 35) 42), (10, rw0 (.iload_n 1)), (11, rwL (.bipush 16) 16)]), (29, [(13, rw0 .irem), (14, rwN (.ifCond .ne 28) 42), (17, rw0 (.aload_n 0)), (18, rwF (.getfield 176) 6 1 "FencedCodeModel" [8] [749, 0]), (21, rwN (.ifCond .eq 15) 36), (24, rw0 (.aload_n 0)), (25, rwF (.getfield 34) 11 2 "FencedCodeModel" [8] [754, 0]), (28, rw0 (.iload_n 2))]), (43, [(29, rw0 .iaload), (30, rw0 (.iload_n 1)), (31, rwN (.if_icmp .ne 5) 36), (34, rw0 (.iload_n 2)), (35, rw0 .ireturn), (36, rwL (.iinc 2 1) 1), (39, rwN (.goto (-37)) 2), (42, rwL (.iconst (-1)) (-1))]), (44, [(43, rw0 .ireturn)])]
set_option maxRecDepth 100000 in
theorem cwZ_lineAt : am_cw sZ_lineAt ∈ am_gw := am_mem (i := 1039) rfl rfl
set_option maxRecDepth 100000 in
theorem gdZ_lineAt : am_Good sZ_lineAt cdZ_lineAt := by decide +kernel
abbrev sZ_lineDone : am_Sg := (yX11_lineDone, cX11_lineDone, 7, some .int, { frames := 2, cells := 0, slots := 0, locals := 50 })
def cdZ_lineDone : am_Cd := [(12, [(0, rw0 (.aload_n 0)), (1, rwF (.getfield 68) 25 2 "FencedCodeModel" [8] [768, 0]), (4, rwL (.iconst 1) 1), (5, rw0 .iaload), (6, rw0 (.istore_n 1)), (7, rw0 (.iload_n 1)), (8, rw0 (.aload_n 0)), (9, rwF (.getfield 173) 5 0 "FencedCodeModel" [8] [748, 0])]), (24, [(12, rwN (.if_icmp .ne 5) 17), (15, rwL (.iconst 2) 2), (16, rw0 .ireturn), (17, rw0 (.aload_n 0)), (18, rwF (.getfield 22) 7 2 "FencedCodeModel" [8] [750, 0]), (21, rw0 (.iload_n 1)), (22, rw0 .iaload), (23, rw0 (.istore_n 2))]), (36, [(24, rw0 (.aload_n 0)), (25, rwF (.getfield 25) 8 2 "FencedCodeModel" [8] [751, 0]), (28, rw0 (.iload_n 1)), (29, rw0 .iaload), (30, rw0 (.istore_n 3)), (31, rw0 (.aload_n 0)), (32, rwF (.getfield 28) 9 2 "FencedCodeModel" [8] [752, 0]), (35, rw0 (.iload_n 1))]), (48, [(36, rw0 .iaload), (37, rw0 (.istore 4)), (39, rw0 (.aload_n 0)), (40, rwF (.getfield 31) 10 2 "FencedCodeModel" [8] [753, 0]), (43, rw0 (.iload_n 1)), (44, rw0 .iaload), (45, rw0 (.istore 5)), (47, rw0 (.iload_n 1))]), (61, [(48, rwL (.iconst 1) 1), (49, rw0 .iadd), (50, rw0 (.istore 6)), (52, rw0 (.iload_n 2)), (53, rwL (.bipush 6) 6), (55, rwN (.if_icmp .eq 9) 64), (58, rw0 (.iload_n 2)), (59, rwL (.bipush 7) 7)]), (75, [(61, rwN (.if_icmp .ne 19) 80), (64, rw0 (.aload_n 0)), (65, rwL (.iconst 1) 1), (66, rw0 (.iload_n 2)), (67, rw0 (.iload_n 3)), (68, rw0 (.iload 4)), (70, rw0 (.iload 5)), (72, rwC (.invokevirtual 226) 5 "" [(8, sZ_moved)] [54, 1018, 1016, 38, 0, 0])]), (89, [(75, rwN (.ifCond .ne 180) 255), (78, rwL (.iconst 4) 4), (79, rw0 .ireturn), (80, rw0 (.iload_n 2)), (81, rwL (.bipush 8) 8), (83, rwN (.if_icmp .lt 33) 116), (86, rw0 (.iload_n 2)), (87, rwL (.bipush 10) 10)]), (104, [(89, rwN (.if_icmp .gt 27) 116), (92, rw0 (.aload_n 0)), (93, rwL (.iconst 1) 1), (94, rw0 (.iload_n 2)), (95, rw0 (.iload_n 3)), (96, rw0 (.iload 4)), (98, rwC (.invokevirtual 230) 4 "" [(8, sZ_holds)] [54, 1022, 1020, 39, 0, 0]), (101, rwN (.ifCond .eq 8) 109)]), (122, [(104, rw0 (.iload 5)), (106, rwN (.goto 5) 111), (109, rw0 (.iload 6)), (111, rw0 (.istore 6)), (113, rwN (.goto 142) 255), (116, rw0 (.iload_n 2)), (117, rwL (.bipush 11) 11), (119, rwN (.if_icmp .ne 24) 143)]), (134, [(122, rw0 (.iload 4)), (124, rw0 (.istore 6)), (126, rw0 (.aload_n 0)), (127, rwL (.iconst 1) 1), (128, rw0 (.iload_n 3)), (129, rw0 (.aload_n 0)), (130, rwF (.getfield 34) 11 2 "FencedCodeModel" [8] [754, 0]), (133, rw0 (.iload_n 1))]), (149, [(134, rwL (.iconst 1) 1), (135, rw0 .iadd), (136, rw0 .iaload), (137, rwC (.invokevirtual 216) 3 "" [(8, sZ_set)] [54, 1002, 1000, 34, 0, 0]), (140, rwN (.goto 115) 255), (143, rw0 (.iload_n 2)), (144, rwL (.bipush 12) 12), (146, rwN (.if_icmp .ne 40) 186)]), (164, [(149, rw0 (.aload_n 0)), (150, rw0 (.aload_n 0)), (151, rwL (.iconst 1) 1), (152, rw0 (.iload 4)), (154, rwC (.invokevirtual 220) 2 "" [(8, sZ_get)] [54, 1014, 1012, 37, 0, 0]), (157, rwC (.invokevirtual 243) 1 "" [(8, sZ_lineAt)] [54, 1038, 1036, 42, 0, 0]), (160, rw0 (.istore 6)), (162, rw0 (.iload 6))]), (176, [(164, rwN (.ifCond .ge 5) 169), (167, rwL (.iconst 5) 5), (168, rw0 .ireturn), (169, rw0 (.aload_n 0)), (170, rwL (.iconst 1) 1), (171, rw0 (.iload_n 3)), (172, rw0 (.aload_n 0)), (173, rwF (.getfield 34) 11 2 "FencedCodeModel" [8] [754, 0])]), (189, [(176, rw0 (.iload_n 1)), (177, rwL (.iconst 1) 1), (178, rw0 .iadd), (179, rw0 .iaload), (180, rwC (.invokevirtual 216) 3 "" [(8, sZ_set)] [54, 1002, 1000, 34, 0, 0]), (183, rwN (.goto 72) 255), (186, rw0 (.iload_n 2)), (187, rwL (.bipush 15) 15)]), (201, [(189, rwN (.if_icmp .ne 33) 222), (192, rw0 (.aload_n 0)), (193, rwL (.iconst 1) 1), (194, rwL (.iconst 1) 1), (195, rw0 (.aload_n 0)), (196, rwF (.getfield 34) 11 2 "FencedCodeModel" [8] [754, 0]), (199, rw0 (.iload_n 1)), (200, rwL (.iconst 1) 1)]), (213, [(201, rw0 .iadd), (202, rw0 .iaload), (203, rwC (.invokevirtual 216) 3 "" [(8, sZ_set)] [54, 1002, 1000, 34, 0, 0]), (206, rw0 (.iload_n 3)), (207, rwL (.iconst 2) 2), (208, rwN (.if_icmp .ne 5) 213), (211, rwL (.iconst 1) 1), (212, rw0 .ireturn)]), (228, [(213, rw0 (.aload_n 0)), (214, rwL (.iconst 1) 1), (215, rw0 (.iload_n 3)), (216, rwC (.invokevirtual 223) 2 "" [(8, sZ_serve)] [54, 1010, 1008, 36, 0, 0]), (219, rwN (.goto 36) 255), (222, rw0 (.iload_n 2)), (223, rwL (.bipush 16) 16), (225, rwN (.if_icmp .ne 19) 244)]), (241, [(228, rw0 (.aload_n 0)), (229, rwL (.iconst 1) 1), (230, rw0 (.iload_n 3)), (231, rw0 (.aload_n 0)), (232, rwF (.getfield 34) 11 2 "FencedCodeModel" [8] [754, 0]), (235, rw0 (.iload 4)), (237, rw0 .iaload), (238, rwC (.invokevirtual 216) 3 "" [(8, sZ_set)] [54, 1002, 1000, 34, 0, 0])]), (255, [(241, rwN (.goto 14) 255), (244, rw0 (.aload_n 0)), (245, rwL (.iconst 1) 1), (246, rw0 (.iload_n 2)), (247, rw0 (.iload_n 3)), (248, rw0 (.iload 4)), (250, rw0 (.iload 5)), (252, rwC (.invokevirtual 233) 5 "" [(8, sZ_reckon)] [54, 1026, 1024, 40, 0, 0])]), (265, [(255, rw0 (.aload_n 0)), (256, rwF (.getfield 68) 25 2 "FencedCodeModel" [8] [768, 0]), (259, rwL (.iconst 1) 1), (260, rw0 (.iload 6)), (262, rw0 .iastore), (263, rwL (.iconst 0) 0), (264, rw0 .ireturn)])]
set_option maxRecDepth 100000 in
theorem cwZ_lineDone : am_cw sZ_lineDone ∈ am_gw := am_mem (i := 1035) rfl rfl
set_option maxRecDepth 100000 in
theorem gdZ_lineDone : am_Good sZ_lineDone cdZ_lineDone := by decide +kernel
abbrev sZ_trial : am_Sg := (yX11_trial, cX11_trial, 3, some .int, { frames := 3, cells := 0, slots := 0, locals := 76 })
def cdZ_trial : am_Cd := [(14, [(0, rw0 (.iload_n 1)), (1, rwL (.iconst 0) 0), (2, rwL (.sipush 2000) 2000), (5, rwC (.invokestatic 82) 3 "" [(0, sZ_outside)] [54, 834, 833]), (8, rwN (.ifCond .eq 5) 13), (11, rwL (.iconst (-1)) (-1)), (12, rw0 .ireturn), (13, rw0 (.aload_n 0))]), (26, [(14, rwL (.iconst 1) 1), (15, rwC (.invokevirtual 237) 1 "" [(8, sZ_anew)] [54, 998, 996, 33, 0, 0]), (18, rw0 (.aload_n 0)), (19, rwF (.getfield 68) 25 2 "FencedCodeModel" [8] [768, 0]), (22, rwL (.iconst 1) 1), (23, rwL (.iconst 0) 0), (24, rw0 .iastore), (25, rwL (.iconst 0) 0)]), (38, [(26, rw0 (.istore_n 2)), (27, rw0 (.iload_n 2)), (28, rwN (.ifCond .ne 53) 81), (31, rw0 (.aload_n 0)), (32, rwF (.getfield 65) 24 2 "FencedCodeModel" [8] [767, 0]), (35, rwL (.iconst 1) 1), (36, rw0 .iaload), (37, rw0 (.iload_n 1))]), (52, [(38, rwN (.if_icmp .ge 43) 81), (41, rw0 (.aload_n 0)), (42, rwC (.invokevirtual 246) 0 "" [(8, sZ_lineDone)] [54, 1034, 1032, 41, 0, 0]), (45, rw0 (.istore_n 2)), (46, rw0 (.aload_n 0)), (47, rwF (.getfield 65) 24 2 "FencedCodeModel" [8] [767, 0]), (50, rwL (.iconst 1) 1), (51, rw0 (.iload_n 2))]), (66, [(52, rwN (.ifCond .eq 8) 60), (55, rw0 (.iload_n 2)), (56, rwL (.iconst 1) 1), (57, rwN (.if_icmp .ne 14) 71), (60, rw0 (.aload_n 0)), (61, rwF (.getfield 65) 24 2 "FencedCodeModel" [8] [767, 0]), (64, rwL (.iconst 1) 1), (65, rw0 .iaload)]), (78, [(66, rwL (.iconst 1) 1), (67, rw0 .iadd), (68, rwN (.goto 9) 77), (71, rw0 (.aload_n 0)), (72, rwF (.getfield 65) 24 2 "FencedCodeModel" [8] [767, 0]), (75, rwL (.iconst 1) 1), (76, rw0 .iaload), (77, rw0 .iastore)]), (83, [(78, rwN (.goto (-51)) 27), (81, rw0 (.iload_n 2)), (82, rw0 .ireturn)])]
set_option maxRecDepth 100000 in
theorem cwZ_trial : am_cw sZ_trial ∈ am_gw := am_mem (i := 1031) rfl rfl
set_option maxRecDepth 100000 in
theorem gdZ_trial : am_Good sZ_trial cdZ_trial := by decide +kernel
abbrev sZ_state : am_Sg := (yX11_state, cX11_state, 3, some .int, { frames := 1, cells := 0, slots := 0, locals := 22 })
def cdZ_state : am_Cd := [(12, [(0, rw0 (.iload_n 1)), (1, rwL (.iconst 0) 0), (2, rwL (.iconst 1) 1), (3, rwC (.invokestatic 82) 3 "" [(0, sZ_outside)] [54, 834, 833]), (6, rwN (.ifCond .ne 12) 18), (9, rw0 (.iload_n 2)), (10, rwL (.iconst 0) 0), (11, rwL (.iconst 2) 2)]), (26, [(12, rwC (.invokestatic 82) 3 "" [(0, sZ_outside)] [54, 834, 833]), (15, rwN (.ifCond .eq 5) 20), (18, rwL (.iconst (-1)) (-1)), (19, rw0 .ireturn), (20, rw0 (.aload_n 0)), (21, rwF (.getfield 71) 26 2 "FencedCodeModel" [8] [769, 0]), (24, rw0 (.iload_n 1)), (25, rw0 .baload)]), (42, [(26, rwN (.ifCond .ne 7) 33), (29, rwL (.iconst 0) 0), (30, rwN (.goto 36) 66), (33, rw0 (.iload_n 2)), (34, rwN (.ifCond .ne 12) 46), (37, rw0 (.aload_n 0)), (38, rwF (.getfield 65) 24 2 "FencedCodeModel" [8] [767, 0]), (41, rw0 (.iload_n 1))]), (56, [(42, rw0 .iaload), (43, rwN (.goto 23) 66), (46, rw0 (.iload_n 2)), (47, rwL (.iconst 1) 1), (48, rwN (.if_icmp .ne 12) 60), (51, rw0 (.aload_n 0)), (52, rwF (.getfield 68) 25 2 "FencedCodeModel" [8] [768, 0]), (55, rw0 (.iload_n 1))]), (67, [(56, rw0 .iaload), (57, rwN (.goto 9) 66), (60, rw0 (.aload_n 0)), (61, rwF (.getfield 62) 23 2 "FencedCodeModel" [8] [766, 0]), (64, rw0 (.iload_n 1)), (65, rw0 .iaload), (66, rw0 .ireturn)])]
set_option maxRecDepth 100000 in
theorem cwZ_state : am_cw sZ_state ∈ am_gw := am_mem (i := 1043) rfl rfl
set_option maxRecDepth 100000 in
theorem gdZ_state : am_Good sZ_state cdZ_state := by decide +kernel
abbrev sZ_output : am_Sg := (yX11_output, cX11_output, 3, some .int, { frames := 1, cells := 0, slots := 0, locals := 22 })
def cdZ_output : am_Cd := [(14, [(0, rw0 (.iload_n 1)), (1, rwL (.iconst 0) 0), (2, rwL (.iconst 1) 1), (3, rwC (.invokestatic 82) 3 "" [(0, sZ_outside)] [54, 834, 833]), (6, rwN (.ifCond .ne 17) 23), (9, rw0 (.iload_n 2)), (10, rwN (.ifCond .lt 13) 23), (13, rw0 (.iload_n 2))]), (28, [(14, rw0 (.aload_n 0)), (15, rwF (.getfield 62) 23 2 "FencedCodeModel" [8] [766, 0]), (18, rw0 (.iload_n 1)), (19, rw0 .iaload), (20, rwN (.if_icmp .lt 7) 27), (23, rwL (.iconst 0) 0), (24, rwN (.goto 14) 38), (27, rw0 (.aload_n 0))]), (39, [(28, rwF (.getfield 59) 22 2 "FencedCodeModel" [8] [765, 0]), (31, rwL (.bipush 40) 40), (33, rw0 (.iload_n 1)), (34, rw0 .imul), (35, rw0 (.iload_n 2)), (36, rw0 .iadd), (37, rw0 .iaload), (38, rw0 .ireturn)])]
set_option maxRecDepth 100000 in
theorem cwZ_output : am_cw sZ_output ∈ am_gw := am_mem (i := 1047) rfl rfl
set_option maxRecDepth 100000 in
theorem gdZ_output : am_Good sZ_output cdZ_output := by decide +kernel
abbrev sZ_register : am_Sg := (yX11_register, cX11_register, 3, some .int, { frames := 1, cells := 0, slots := 0, locals := 22 })
def cdZ_register : am_Cd := [(16, [(0, rw0 (.iload_n 1)), (1, rwL (.iconst 0) 0), (2, rwL (.iconst 1) 1), (3, rwC (.invokestatic 82) 3 "" [(0, sZ_outside)] [54, 834, 833]), (6, rwN (.ifCond .ne 10) 16), (9, rw0 (.iload_n 2)), (10, rwC (.invokestatic 78) 1 "" [(0, sZ_notRegister)] [54, 840, 839]), (13, rwN (.ifCond .eq 7) 20)]), (29, [(16, rwL (.iconst 0) 0), (17, rwN (.goto 14) 31), (20, rw0 (.aload_n 0)), (21, rwF (.getfield 53) 20 2 "FencedCodeModel" [8] [763, 0]), (24, rwL (.bipush 32) 32), (26, rw0 (.iload_n 1)), (27, rw0 .imul), (28, rw0 (.iload_n 2))]), (32, [(29, rw0 .iadd), (30, rw0 .iaload), (31, rw0 .ireturn)])]
set_option maxRecDepth 100000 in
theorem cwZ_register : am_cw sZ_register ∈ am_gw := am_mem (i := 1051) rfl rfl
set_option maxRecDepth 100000 in
theorem gdZ_register : am_Good sZ_register cdZ_register := by decide +kernel
abbrev sZ_word : am_Sg := (yX11_word, cX11_word, 3, some .int, { frames := 1, cells := 0, slots := 0, locals := 22 })
def cdZ_word : am_Cd := [(13, [(0, rw0 (.iload_n 1)), (1, rwL (.iconst 0) 0), (2, rwL (.iconst 1) 1), (3, rwC (.invokestatic 82) 3 "" [(0, sZ_outside)] [54, 834, 833]), (6, rwN (.ifCond .ne 13) 19), (9, rw0 (.iload_n 2)), (10, rwL (.iconst 0) 0), (11, rwL (.bipush 15) 15)]), (30, [(13, rwC (.invokestatic 82) 3 "" [(0, sZ_outside)] [54, 834, 833]), (16, rwN (.ifCond .eq 7) 23), (19, rwL (.iconst 0) 0), (20, rwN (.goto 14) 34), (23, rw0 (.aload_n 0)), (24, rwF (.getfield 56) 21 2 "FencedCodeModel" [8] [764, 0]), (27, rwL (.bipush 16) 16), (29, rw0 (.iload_n 1))]), (35, [(30, rw0 .imul), (31, rw0 (.iload_n 2)), (32, rw0 .iadd), (33, rw0 .iaload), (34, rw0 .ireturn)])]
set_option maxRecDepth 100000 in
theorem cwZ_word : am_cw sZ_word ∈ am_gw := am_mem (i := 1055) rfl rfl
set_option maxRecDepth 100000 in
theorem gdZ_word : am_Good sZ_word cdZ_word := by decide +kernel
end
section
/-! walks by program: helpers, the world, the methods without state -/
theorem am_split {c A B : Prop} (h1 : c → A) (h2 : ¬ c → B) : am_br c A B := ⟨h1, h2⟩
theorem am_call {S : am_Sg} {as : List Value} {ab ab1 : List am_Cl} {v : Option Value} {K : Option Value → List am_Cl → Prop} (h : am_Ev S as ab v ab1) (k : K v ab1) : ∃ (v : Option Value) (ab1 : List am_Cl), am_Ev S as ab v ab1 ∧ K v ab1 := ⟨v, ab1, h, k⟩
theorem am_ri {S : am_Sg} {r : Option Value} {x : Int32} {ab ab' : List am_Cl} {ty : FieldType} (h1 : r = some (.int x)) (h2 : ab' = ab) (h3 : am_r S = some ty) (h4 : narrow ty (.int x) = .int x) : r = some (.int x) ∧ ab' = ab ∧ ∃ ty, am_r S = some ty ∧ narrow ty (.int x) = .int x := ⟨h1, h2, ty, h3, h4⟩
theorem am_rv {S : am_Sg} {ab ab' : List am_Cl} (h2 : ab' = ab) (h3 : am_r S = none) : (none : Option Value) = none ∧ ab' = ab ∧ am_r S = none := ⟨rfl, h2, h3⟩
theorem zo_ite {c : Prop} {h : Decidable c} {A B : Int32} (h1 : A = 0 ∨ A = 1) (h2 : B = 0 ∨ B = 1) : @ite Int32 c h A B = 0 ∨ @ite Int32 c h A B = 1 := by
  cases h with
  | isTrue q => exact h1
  | isFalse q => exact h2
theorem am_ra {S : am_Sg} {r : Option Value} {v : Value} {ab ab' : List am_Cl} {nm : String} (h1 : r = some v) (h2 : ab' = ab) (h3 : am_r S = some (.object nm)) : r = some v ∧ ab' = ab ∧ ∃ nm, am_r S = some (.object nm) := ⟨h1, h2, nm, h3⟩
theorem am_nz {x : Int32} (h : x = 0 ∨ x = 1) : narrow .boolean (.int x) = .int x := by rcases h with rfl | rfl <;> rfl
def wZ (j : Nat → Int32) (c : Nat → Nat → Int32) : List am_Cl := [.inr (8, [.int (j 0), .ref 31, .ref 32, .ref 33, .ref 34, .int (j 1), .int (j 2), .ref 35, .ref 36, .ref 37, .ref 38, .ref 39, .ref 40, .ref 41, .int (j 3), .ref 42, .ref 43, .int (j 4), .int (j 5), .ref 44, .ref 45, .ref 46, .ref 47, .ref 48, .ref 49, .ref 50, .ref 51, .int (j 6)]), .inl (false, 20, c 0), .inl (false, 20, c 1), .inl (false, 20, c 2), .inl (false, 20, c 3), .inl (false, 20, c 4), .inl (false, 20, c 5), .inl (false, 20, c 6), .inl (false, 20, c 7), .inl (false, 21, c 8), .inl (false, 21, c 9), .inl (false, 21, c 10), .inl (false, 256, c 11), .inl (true, 256, c 12), .inl (false, 20, c 13), .inl (false, 64, c 14), .inl (false, 32, c 15), .inl (false, 80, c 16), .inl (false, 2, c 17), .inl (false, 2, c 18), .inl (false, 2, c 19), .inl (true, 2, c 20)]
def wX (i : Nat → Int32) (a : Nat → Nat → Int32) (tl : List am_Cl) : List am_Cl := .inr (7, [.ref 1, .ref 8, .ref 17, .ref 15, .ref 18, .ref 20, .ref 22, .ref 26, .int (i 0)]) :: .inr (4, [.ref 2, .ref 3, .ref 4, .ref 5, .ref 6, .ref 7, .int (i 1), .int (i 2)]) :: .inl (false, 20, a 0) :: .inl (false, 20, a 1) :: .inl (false, 20, a 2) :: .inl (false, 20, a 3) :: .inl (false, 21, a 4) :: .inl (false, 20, a 5) :: .inr (4, [.ref 9, .ref 10, .ref 11, .ref 12, .ref 13, .ref 14, .int (i 3), .int (i 4)]) :: .inl (false, 20, a 6) :: .inl (false, 20, a 7) :: .inl (false, 20, a 8) :: .inl (false, 20, a 9) :: .inl (false, 21, a 10) :: .inl (false, 20, a 11) :: .inr (1, [.ref 16, .int (i 5)]) :: .inl (false, 256, a 12) :: .inr (5, [.ref 8, .ref 15, .int (i 6)]) :: .inr (0, [.ref 15, .int 31457203, .int 30404531, .ref 19]) :: .inl (false, 256, a 13) :: .inr (2, [.ref 21, .int (i 7)]) :: .inl (false, 20, a 14) :: .inr (3, [.ref 20, .ref 23, .ref 24, .ref 25, .int (i 8), .int (i 9), .int (i 10), .int (i 11), .ref 15]) :: .inl (false, 32, a 15) :: .inl (false, 16, a 16) :: .inl (false, 40, a 17) :: .inr (6, [.ref 20, .ref 27, .ref 28, .ref 29, .int (i 12), .int (i 13), .int (i 14), .int (i 15), .ref 8]) :: .inl (false, 32, a 18) :: .inl (false, 16, a 19) :: .inl (false, 40, a 20) :: tl
noncomputable def sI (i : Nat → Int32) (v : Int32) (k : Nat) : Nat → Int32 := fun q => @Bool.rec (fun _ => Int32) (i q) v (Nat.beq q k)
noncomputable def sA (a : Nat → Nat → Int32) (f : Nat → Int32) (k : Nat) : Nat → Nat → Int32 := fun q => @Bool.rec (fun _ => Nat → Int32) (a q) f (Nat.beq q k)
noncomputable def rX_within (p q r : Int32) : Int32 := if p < q then (0 : Int32) else if r < p then (0 : Int32) else (1 : Int32)
set_option maxHeartbeats 4000000 in
set_option maxRecDepth 100000 in
theorem eX_within (p q r : Int32) (ab : List am_Cl) : am_Ev sX_within [.int p, .int q, .int r] ab (some (.int (rX_within p q r))) ab := by
  refine am_Ev_of cwX_within rfl rfl rfl (am_wp_T gdX_within 400 ?_)
  refine am_split (fun h1 => ?_) (fun h1 => ?_)
  · skip
    exact am_ri (S := sX_within) (by unfold rX_within; simp only [if_pos h1]; try rfl) rfl rfl rfl
  · skip
    refine am_split (fun h2 => ?_) (fun h2 => ?_)
    · skip
      exact am_ri (S := sX_within) (by unfold rX_within; simp only [if_neg h1, if_pos h2]; try rfl) rfl rfl rfl
    · skip
      exact am_ri (S := sX_within) (by unfold rX_within; simp only [if_neg h1, if_neg h2]; try rfl) rfl rfl rfl
theorem zoX_within (p q r : Int32) : rX_within p q r = 0 ∨ rX_within p q r = 1 := by
  unfold rX_within
  repeat' (first | with_reducible refine zo_ite ?_ ?_ | with_reducible exact Or.inl rfl | with_reducible exact Or.inr rfl)
noncomputable def rF_isShort (p : Int32) : Int32 := (rX_within p (-2048 : Int32) (2047 : Int32))
set_option maxHeartbeats 4000000 in
set_option maxRecDepth 100000 in
theorem eF_isShort (p : Int32) (ab : List am_Cl) : am_Ev sF_isShort [.int p] ab (some (.int (rF_isShort p))) ab := by
  refine am_Ev_of cwF_isShort rfl rfl rfl (am_wp_T gdF_isShort 400 ?_)
  refine am_call (eX_within p (-2048 : Int32) (2047 : Int32) _) ?_
  exact am_ri (S := sF_isShort) rfl rfl rfl (am_nz (zoX_within p (-2048 : Int32) (2047 : Int32)))
theorem zoF_isShort (p : Int32) : rF_isShort p = 0 ∨ rF_isShort p = 1 := by
  unfold rF_isShort
  repeat' (first | with_reducible refine zo_ite ?_ ?_ | with_reducible exact zoX_within .. | with_reducible exact Or.inl rfl | with_reducible exact Or.inr rfl)
noncomputable def rF_threeRegisters (p q r s t : Int32) : Int32 := ((((((p <<< ((25 : Int32) &&& 31)) ||| (t <<< ((20 : Int32) &&& 31))) ||| (s <<< ((15 : Int32) &&& 31))) ||| (q <<< ((12 : Int32) &&& 31))) ||| (r <<< ((7 : Int32) &&& 31))) ||| (51 : Int32))
set_option maxHeartbeats 4000000 in
set_option maxRecDepth 100000 in
theorem eF_threeRegisters (p q r s t : Int32) (ab : List am_Cl) : am_Ev sF_threeRegisters [.int p, .int q, .int r, .int s, .int t] ab (some (.int (rF_threeRegisters p q r s t))) ab := by
  refine am_Ev_of cwF_threeRegisters rfl rfl rfl (am_wp_T gdF_threeRegisters 400 ?_)
  exact am_ri (S := sF_threeRegisters) rfl rfl rfl rfl
noncomputable def rF_withShort (p q r s t : Int32) : Int32 := (((((t <<< ((20 : Int32) &&& 31)) ||| (s <<< ((15 : Int32) &&& 31))) ||| (p <<< ((12 : Int32) &&& 31))) ||| (r <<< ((7 : Int32) &&& 31))) ||| q)
set_option maxHeartbeats 4000000 in
set_option maxRecDepth 100000 in
theorem eF_withShort (p q r s t : Int32) (ab : List am_Cl) : am_Ev sF_withShort [.int p, .int q, .int r, .int s, .int t] ab (some (.int (rF_withShort p q r s t))) ab := by
  refine am_Ev_of cwF_withShort rfl rfl rfl (am_wp_T gdF_withShort 400 ?_)
  exact am_ri (S := sF_withShort) rfl rfl rfl rfl
noncomputable def rF_branch (p q r s : Int32) : Int32 := ((((((((((s >>> ((12 : Int32) &&& 31)) &&& (1 : Int32)) <<< ((6 : Int32) &&& 31)) ||| ((s >>> ((5 : Int32) &&& 31)) &&& (63 : Int32))) <<< ((25 : Int32) &&& 31)) ||| (r <<< ((20 : Int32) &&& 31))) ||| (q <<< ((15 : Int32) &&& 31))) ||| (p <<< ((12 : Int32) &&& 31))) ||| (((((s >>> ((1 : Int32) &&& 31)) &&& (15 : Int32)) <<< ((1 : Int32) &&& 31)) ||| ((s >>> ((11 : Int32) &&& 31)) &&& (1 : Int32))) <<< ((7 : Int32) &&& 31))) ||| (99 : Int32))
set_option maxHeartbeats 4000000 in
set_option maxRecDepth 100000 in
theorem eF_branch (p q r s : Int32) (ab : List am_Cl) : am_Ev sF_branch [.int p, .int q, .int r, .int s] ab (some (.int (rF_branch p q r s))) ab := by
  refine am_Ev_of cwF_branch rfl rfl rfl (am_wp_T gdF_branch 400 ?_)
  exact am_ri (S := sF_branch) rfl rfl rfl rfl
noncomputable def rF_jump (p q : Int32) : Int32 := (((((((((q >>> ((20 : Int32) &&& 31)) &&& (1 : Int32)) <<< ((11 : Int32) &&& 31)) ||| (((q >>> ((1 : Int32) &&& 31)) &&& (1023 : Int32)) <<< ((1 : Int32) &&& 31))) ||| ((q >>> ((11 : Int32) &&& 31)) &&& (1 : Int32))) <<< ((20 : Int32) &&& 31)) ||| (((q >>> ((12 : Int32) &&& 31)) &&& (255 : Int32)) <<< ((12 : Int32) &&& 31))) ||| (p <<< ((7 : Int32) &&& 31))) ||| (111 : Int32))
set_option maxHeartbeats 4000000 in
set_option maxRecDepth 100000 in
theorem eF_jump (p q : Int32) (ab : List am_Cl) : am_Ev sF_jump [.int p, .int q] ab (some (.int (rF_jump p q))) ab := by
  refine am_Ev_of cwF_jump rfl rfl rfl (am_wp_T gdF_jump 400 ?_)
  exact am_ri (S := sF_jump) rfl rfl rfl rfl
noncomputable def rF_isLong (p : Int32) : Int32 := if (p &&& (3 : Int32)) = (3 : Int32) then (1 : Int32) else (0 : Int32)
set_option maxHeartbeats 4000000 in
set_option maxRecDepth 100000 in
theorem eF_isLong (p : Int32) (ab : List am_Cl) : am_Ev sF_isLong [.int p] ab (some (.int (rF_isLong p))) ab := by
  refine am_Ev_of cwF_isLong rfl rfl rfl (am_wp_T gdF_isLong 400 ?_)
  refine am_split (fun h1 => ?_) (fun h1 => ?_)
  · skip
    exact am_ri (S := sF_isLong) (by unfold rF_isLong; simp only [if_pos h1]; try rfl) rfl rfl rfl
  · skip
    exact am_ri (S := sF_isLong) (by unfold rF_isLong; simp only [if_neg h1]; try rfl) rfl rfl rfl
theorem zoF_isLong (p : Int32) : rF_isLong p = 0 ∨ rF_isLong p = 1 := by
  unfold rF_isLong
  repeat' (first | with_reducible refine zo_ite ?_ ?_ | with_reducible exact Or.inl rfl | with_reducible exact Or.inr rfl)
noncomputable def rF_sizeOf (p : Int32) : Int32 := if (rF_isLong p) = (0 : Int32) then (2 : Int32) else (4 : Int32)
set_option maxHeartbeats 4000000 in
set_option maxRecDepth 100000 in
theorem eF_sizeOf (p : Int32) (ab : List am_Cl) : am_Ev sF_sizeOf [.int p] ab (some (.int (rF_sizeOf p))) ab := by
  refine am_Ev_of cwF_sizeOf rfl rfl rfl (am_wp_T gdF_sizeOf 400 ?_)
  refine am_call (eF_isLong p _) ?_
  refine am_split (fun h1 => ?_) (fun h1 => ?_)
  · skip
    exact am_ri (S := sF_sizeOf) (by unfold rF_sizeOf; simp only [if_pos h1]; try rfl) rfl rfl rfl
  · skip
    exact am_ri (S := sF_sizeOf) (by unfold rF_sizeOf; simp only [if_neg h1]; try rfl) rfl rfl rfl
noncomputable def rF_lowRegister (p : Int32) : Int32 := ((Int32.toUInt32 p >>> (Int32.toUInt32 (7 : Int32) &&& Int32.toUInt32 31)).toInt32 &&& (31 : Int32))
set_option maxHeartbeats 4000000 in
set_option maxRecDepth 100000 in
theorem eF_lowRegister (p : Int32) (ab : List am_Cl) : am_Ev sF_lowRegister [.int p] ab (some (.int (rF_lowRegister p))) ab := by
  refine am_Ev_of cwF_lowRegister rfl rfl rfl (am_wp_T gdF_lowRegister 400 ?_)
  exact am_ri (S := sF_lowRegister) rfl rfl rfl rfl
noncomputable def rF_middleRegister (p : Int32) : Int32 := ((Int32.toUInt32 p >>> (Int32.toUInt32 (15 : Int32) &&& Int32.toUInt32 31)).toInt32 &&& (31 : Int32))
set_option maxHeartbeats 4000000 in
set_option maxRecDepth 100000 in
theorem eF_middleRegister (p : Int32) (ab : List am_Cl) : am_Ev sF_middleRegister [.int p] ab (some (.int (rF_middleRegister p))) ab := by
  refine am_Ev_of cwF_middleRegister rfl rfl rfl (am_wp_T gdF_middleRegister 400 ?_)
  exact am_ri (S := sF_middleRegister) rfl rfl rfl rfl
noncomputable def rF_highRegister (p : Int32) : Int32 := ((Int32.toUInt32 p >>> (Int32.toUInt32 (20 : Int32) &&& Int32.toUInt32 31)).toInt32 &&& (31 : Int32))
set_option maxHeartbeats 4000000 in
set_option maxRecDepth 100000 in
theorem eF_highRegister (p : Int32) (ab : List am_Cl) : am_Ev sF_highRegister [.int p] ab (some (.int (rF_highRegister p))) ab := by
  refine am_Ev_of cwF_highRegister rfl rfl rfl (am_wp_T gdF_highRegister 400 ?_)
  exact am_ri (S := sF_highRegister) rfl rfl rfl rfl
noncomputable def rF_shortRegister (p : Int32) : Int32 := ((Int32.toUInt32 p >>> (Int32.toUInt32 (2 : Int32) &&& Int32.toUInt32 31)).toInt32 &&& (31 : Int32))
set_option maxHeartbeats 4000000 in
set_option maxRecDepth 100000 in
theorem eF_shortRegister (p : Int32) (ab : List am_Cl) : am_Ev sF_shortRegister [.int p] ab (some (.int (rF_shortRegister p))) ab := by
  refine am_Ev_of cwF_shortRegister rfl rfl rfl (am_wp_T gdF_shortRegister 400 ?_)
  exact am_ri (S := sF_shortRegister) rfl rfl rfl rfl
noncomputable def rF_shortNumber (p : Int32) : Int32 := if (p &&& (4096 : Int32)) = (0 : Int32) then ((Int32.toUInt32 p >>> (Int32.toUInt32 (2 : Int32) &&& Int32.toUInt32 31)).toInt32 &&& (31 : Int32)) else (((Int32.toUInt32 p >>> (Int32.toUInt32 (2 : Int32) &&& Int32.toUInt32 31)).toInt32 &&& (31 : Int32)) - (32 : Int32))
set_option maxHeartbeats 4000000 in
set_option maxRecDepth 100000 in
theorem eF_shortNumber (p : Int32) (ab : List am_Cl) : am_Ev sF_shortNumber [.int p] ab (some (.int (rF_shortNumber p))) ab := by
  refine am_Ev_of cwF_shortNumber rfl rfl rfl (am_wp_T gdF_shortNumber 400 ?_)
  refine am_split (fun h1 => ?_) (fun h1 => ?_)
  · skip
    exact am_ri (S := sF_shortNumber) (by unfold rF_shortNumber; simp only [if_pos h1]; try rfl) rfl rfl rfl
  · skip
    exact am_ri (S := sF_shortNumber) (by unfold rF_shortNumber; simp only [if_neg h1]; try rfl) rfl rfl rfl
noncomputable def rF_branchOffset (p : Int32) : Int32 := (((((p >>> ((31 : Int32) &&& 31)) <<< ((12 : Int32) &&& 31)) ||| (((Int32.toUInt32 p >>> (Int32.toUInt32 (7 : Int32) &&& Int32.toUInt32 31)).toInt32 &&& (1 : Int32)) <<< ((11 : Int32) &&& 31))) ||| (((Int32.toUInt32 p >>> (Int32.toUInt32 (25 : Int32) &&& Int32.toUInt32 31)).toInt32 &&& (63 : Int32)) <<< ((5 : Int32) &&& 31))) ||| (((Int32.toUInt32 p >>> (Int32.toUInt32 (8 : Int32) &&& Int32.toUInt32 31)).toInt32 &&& (15 : Int32)) <<< ((1 : Int32) &&& 31)))
set_option maxHeartbeats 4000000 in
set_option maxRecDepth 100000 in
theorem eF_branchOffset (p : Int32) (ab : List am_Cl) : am_Ev sF_branchOffset [.int p] ab (some (.int (rF_branchOffset p))) ab := by
  refine am_Ev_of cwF_branchOffset rfl rfl rfl (am_wp_T gdF_branchOffset 400 ?_)
  exact am_ri (S := sF_branchOffset) rfl rfl rfl rfl
noncomputable def rF_jumpOffset (p : Int32) : Int32 := (((((p >>> ((31 : Int32) &&& 31)) <<< ((20 : Int32) &&& 31)) ||| (((Int32.toUInt32 p >>> (Int32.toUInt32 (12 : Int32) &&& Int32.toUInt32 31)).toInt32 &&& (255 : Int32)) <<< ((12 : Int32) &&& 31))) ||| (((Int32.toUInt32 p >>> (Int32.toUInt32 (20 : Int32) &&& Int32.toUInt32 31)).toInt32 &&& (1 : Int32)) <<< ((11 : Int32) &&& 31))) ||| (((Int32.toUInt32 p >>> (Int32.toUInt32 (21 : Int32) &&& Int32.toUInt32 31)).toInt32 &&& (1023 : Int32)) <<< ((1 : Int32) &&& 31)))
set_option maxHeartbeats 4000000 in
set_option maxRecDepth 100000 in
theorem eF_jumpOffset (p : Int32) (ab : List am_Cl) : am_Ev sF_jumpOffset [.int p] ab (some (.int (rF_jumpOffset p))) ab := by
  refine am_Ev_of cwF_jumpOffset rfl rfl rfl (am_wp_T gdF_jumpOffset 400 ?_)
  exact am_ri (S := sF_jumpOffset) rfl rfl rfl rfl
noncomputable def rF_arithmeticKindOf (p q : Int32) : Int32 := if p = (32 : Int32) then if q = (0 : Int32) then (1 : Int32) else (-1 : Int32) else if p = (0 : Int32) then if q = (0 : Int32) then (0 : Int32) else if q = (6 : Int32) then (3 : Int32) else if q = (7 : Int32) then (2 : Int32) else (-1 : Int32) else (-1 : Int32)
set_option maxHeartbeats 4000000 in
set_option maxRecDepth 100000 in
theorem eF_arithmeticKindOf (p q : Int32) (ab : List am_Cl) : am_Ev sF_arithmeticKindOf [.int p, .int q] ab (some (.int (rF_arithmeticKindOf p q))) ab := by
  refine am_Ev_of cwF_arithmeticKindOf rfl rfl rfl (am_wp_T gdF_arithmeticKindOf 400 ?_)
  refine am_split (fun h1 => ?_) (fun h1 => ?_)
  · skip
    refine am_split (fun h2 => ?_) (fun h2 => ?_)
    · skip
      exact am_ri (S := sF_arithmeticKindOf) (by unfold rF_arithmeticKindOf; simp only [if_pos h1, if_pos h2]; try rfl) rfl rfl rfl
    · skip
      exact am_ri (S := sF_arithmeticKindOf) (by unfold rF_arithmeticKindOf; simp only [if_pos h1, if_neg h2]; try rfl) rfl rfl rfl
  · skip
    refine am_split (fun h3 => ?_) (fun h3 => ?_)
    · skip
      refine am_split (fun h4 => ?_) (fun h4 => ?_)
      · skip
        exact am_ri (S := sF_arithmeticKindOf) (by unfold rF_arithmeticKindOf; simp only [if_neg h1, if_pos h3, if_pos h4]; try rfl) rfl rfl rfl
      · skip
        refine am_split (fun h5 => ?_) (fun h5 => ?_)
        · skip
          exact am_ri (S := sF_arithmeticKindOf) (by unfold rF_arithmeticKindOf; simp only [if_neg h1, if_pos h3, if_neg h4, if_pos h5]; try rfl) rfl rfl rfl
        · skip
          refine am_split (fun h6 => ?_) (fun h6 => ?_)
          · skip
            exact am_ri (S := sF_arithmeticKindOf) (by unfold rF_arithmeticKindOf; simp only [if_neg h1, if_pos h3, if_neg h4, if_neg h5, if_pos h6]; try rfl) rfl rfl rfl
          · skip
            exact am_ri (S := sF_arithmeticKindOf) (by unfold rF_arithmeticKindOf; simp only [if_neg h1, if_pos h3, if_neg h4, if_neg h5, if_neg h6]; try rfl) rfl rfl rfl
    · skip
      exact am_ri (S := sF_arithmeticKindOf) (by unfold rF_arithmeticKindOf; simp only [if_neg h1, if_neg h3]; try rfl) rfl rfl rfl
noncomputable def rF_branchKindOf (p : Int32) : Int32 := if p = (0 : Int32) then (8 : Int32) else if p = (1 : Int32) then (9 : Int32) else if p = (2 : Int32) then (-1 : Int32) else if p = (3 : Int32) then (-1 : Int32) else if p = (4 : Int32) then (10 : Int32) else (-1 : Int32)
set_option maxHeartbeats 4000000 in
set_option maxRecDepth 100000 in
theorem eF_branchKindOf (p : Int32) (ab : List am_Cl) : am_Ev sF_branchKindOf [.int p] ab (some (.int (rF_branchKindOf p))) ab := by
  refine am_Ev_of cwF_branchKindOf rfl rfl rfl (am_wp_T gdF_branchKindOf 400 ?_)
  refine am_split (fun h1 => ?_) (fun h1 => ?_)
  · skip
    exact am_ri (S := sF_branchKindOf) (by unfold rF_branchKindOf; simp only [if_pos h1]; try rfl) rfl rfl rfl
  · skip
    refine am_split (fun h2 => ?_) (fun h2 => ?_)
    · skip
      exact am_ri (S := sF_branchKindOf) (by unfold rF_branchKindOf; simp only [if_neg h1, if_pos h2]; try rfl) rfl rfl rfl
    · skip
      refine am_split (fun h3 => ?_) (fun h3 => ?_)
      · skip
        exact am_ri (S := sF_branchKindOf) (by unfold rF_branchKindOf; simp only [if_neg h1, if_neg h2, if_pos h3]; try rfl) rfl rfl rfl
      · skip
        refine am_split (fun h4 => ?_) (fun h4 => ?_)
        · skip
          exact am_ri (S := sF_branchKindOf) (by unfold rF_branchKindOf; simp only [if_neg h1, if_neg h2, if_neg h3, if_pos h4]; try rfl) rfl rfl rfl
        · skip
          refine am_split (fun h5 => ?_) (fun h5 => ?_)
          · skip
            exact am_ri (S := sF_branchKindOf) (by unfold rF_branchKindOf; simp only [if_neg h1, if_neg h2, if_neg h3, if_neg h4, if_pos h5]; try rfl) rfl rfl rfl
          · skip
            exact am_ri (S := sF_branchKindOf) (by unfold rF_branchKindOf; simp only [if_neg h1, if_neg h2, if_neg h3, if_neg h4, if_neg h5]; try rfl) rfl rfl rfl
noncomputable def rF_plainFits (p q r s t : Int32) : Int32 := if p = (0 : Int32) then if (rX_within q (0 : Int32) t) = (0 : Int32) then (0 : Int32) else if (rX_within r (0 : Int32) t) = (0 : Int32) then (0 : Int32) else if (rX_within s (0 : Int32) t) = (0 : Int32) then (0 : Int32) else (1 : Int32) else if p = (1 : Int32) then if (rX_within q (0 : Int32) t) = (0 : Int32) then (0 : Int32) else if (rX_within r (0 : Int32) t) = (0 : Int32) then (0 : Int32) else if (rX_within s (0 : Int32) t) = (0 : Int32) then (0 : Int32) else (1 : Int32) else if p = (2 : Int32) then if (rX_within q (0 : Int32) t) = (0 : Int32) then (0 : Int32) else if (rX_within r (0 : Int32) t) = (0 : Int32) then (0 : Int32) else if (rX_within s (0 : Int32) t) = (0 : Int32) then (0 : Int32) else (1 : Int32) else if p = (3 : Int32) then if (rX_within q (0 : Int32) t) = (0 : Int32) then (0 : Int32) else if (rX_within r (0 : Int32) t) = (0 : Int32) then (0 : Int32) else if (rX_within s (0 : Int32) t) = (0 : Int32) then (0 : Int32) else (1 : Int32) else if p = (4 : Int32) then if (rX_within q (0 : Int32) t) = (0 : Int32) then (0 : Int32) else if (rX_within r (0 : Int32) t) = (0 : Int32) then (0 : Int32) else if (rF_isShort s) = (0 : Int32) then (0 : Int32) else (1 : Int32) else if p = (5 : Int32) then if (rX_within q (0 : Int32) t) = (0 : Int32) then (0 : Int32) else if (rX_within r (0 : Int32) (1048575 : Int32)) = (0 : Int32) then (0 : Int32) else (1 : Int32) else if p = (6 : Int32) then if (rX_within q (0 : Int32) t) = (0 : Int32) then (0 : Int32) else if (rX_within r (0 : Int32) t) = (0 : Int32) then (0 : Int32) else if (rF_isShort s) = (0 : Int32) then (0 : Int32) else (1 : Int32) else if p = (7 : Int32) then if (rX_within q (0 : Int32) t) = (0 : Int32) then (0 : Int32) else if (rX_within r (0 : Int32) t) = (0 : Int32) then (0 : Int32) else if (rF_isShort s) = (0 : Int32) then (0 : Int32) else (1 : Int32) else if p = (8 : Int32) then (0 : Int32) else if p = (9 : Int32) then (0 : Int32) else if p = (10 : Int32) then (0 : Int32) else if p = (11 : Int32) then (0 : Int32) else if p = (12 : Int32) then (0 : Int32) else if p = (13 : Int32) then if (rX_within q (0 : Int32) t) = (0 : Int32) then (0 : Int32) else if (rX_within r (-32 : Int32) (31 : Int32)) = (0 : Int32) then (0 : Int32) else if q = (0 : Int32) then if r = (0 : Int32) then (1 : Int32) else (0 : Int32) else if r = (0 : Int32) then (0 : Int32) else (1 : Int32) else if p = (14 : Int32) then if (rX_within q (1 : Int32) t) = (0 : Int32) then (0 : Int32) else if (rX_within r (1 : Int32) t) = (0 : Int32) then (0 : Int32) else (1 : Int32) else (0 : Int32)
set_option maxHeartbeats 4000000 in
set_option maxRecDepth 100000 in
theorem eF_plainFits (p q r s t : Int32) (ab : List am_Cl) : am_Ev sF_plainFits [.int p, .int q, .int r, .int s, .int t] ab (some (.int (rF_plainFits p q r s t))) ab := by
  refine am_Ev_of cwF_plainFits rfl rfl rfl (am_wp_T gdF_plainFits 400 ?_)
  refine am_split (fun h1 => ?_) (fun h1 => ?_)
  · skip
    refine am_call (eX_within q (0 : Int32) t _) ?_
    refine am_split (fun h2 => ?_) (fun h2 => ?_)
    · skip
      exact am_ri (S := sF_plainFits) (by unfold rF_plainFits; simp only [if_pos h1, if_pos h2]; try rfl) rfl rfl rfl
    · skip
      refine am_call (eX_within r (0 : Int32) t _) ?_
      refine am_split (fun h3 => ?_) (fun h3 => ?_)
      · skip
        exact am_ri (S := sF_plainFits) (by unfold rF_plainFits; simp only [if_pos h1, if_neg h2, if_pos h3]; try rfl) rfl rfl rfl
      · skip
        refine am_call (eX_within s (0 : Int32) t _) ?_
        refine am_split (fun h4 => ?_) (fun h4 => ?_)
        · skip
          exact am_ri (S := sF_plainFits) (by unfold rF_plainFits; simp only [if_pos h1, if_neg h2, if_neg h3, if_pos h4]; try rfl) rfl rfl rfl
        · skip
          exact am_ri (S := sF_plainFits) (by unfold rF_plainFits; simp only [if_pos h1, if_neg h2, if_neg h3, if_neg h4]; try rfl) rfl rfl rfl
  · skip
    refine am_split (fun h5 => ?_) (fun h5 => ?_)
    · skip
      refine am_call (eX_within q (0 : Int32) t _) ?_
      refine am_split (fun h6 => ?_) (fun h6 => ?_)
      · skip
        exact am_ri (S := sF_plainFits) (by unfold rF_plainFits; simp only [if_neg h1, if_pos h5, if_pos h6]; try rfl) rfl rfl rfl
      · skip
        refine am_call (eX_within r (0 : Int32) t _) ?_
        refine am_split (fun h7 => ?_) (fun h7 => ?_)
        · skip
          exact am_ri (S := sF_plainFits) (by unfold rF_plainFits; simp only [if_neg h1, if_pos h5, if_neg h6, if_pos h7]; try rfl) rfl rfl rfl
        · skip
          refine am_call (eX_within s (0 : Int32) t _) ?_
          refine am_split (fun h8 => ?_) (fun h8 => ?_)
          · skip
            exact am_ri (S := sF_plainFits) (by unfold rF_plainFits; simp only [if_neg h1, if_pos h5, if_neg h6, if_neg h7, if_pos h8]; try rfl) rfl rfl rfl
          · skip
            exact am_ri (S := sF_plainFits) (by unfold rF_plainFits; simp only [if_neg h1, if_pos h5, if_neg h6, if_neg h7, if_neg h8]; try rfl) rfl rfl rfl
    · skip
      refine am_split (fun h9 => ?_) (fun h9 => ?_)
      · skip
        refine am_call (eX_within q (0 : Int32) t _) ?_
        refine am_split (fun h10 => ?_) (fun h10 => ?_)
        · skip
          exact am_ri (S := sF_plainFits) (by unfold rF_plainFits; simp only [if_neg h1, if_neg h5, if_pos h9, if_pos h10]; try rfl) rfl rfl rfl
        · skip
          refine am_call (eX_within r (0 : Int32) t _) ?_
          refine am_split (fun h11 => ?_) (fun h11 => ?_)
          · skip
            exact am_ri (S := sF_plainFits) (by unfold rF_plainFits; simp only [if_neg h1, if_neg h5, if_pos h9, if_neg h10, if_pos h11]; try rfl) rfl rfl rfl
          · skip
            refine am_call (eX_within s (0 : Int32) t _) ?_
            refine am_split (fun h12 => ?_) (fun h12 => ?_)
            · skip
              exact am_ri (S := sF_plainFits) (by unfold rF_plainFits; simp only [if_neg h1, if_neg h5, if_pos h9, if_neg h10, if_neg h11, if_pos h12]; try rfl) rfl rfl rfl
            · skip
              exact am_ri (S := sF_plainFits) (by unfold rF_plainFits; simp only [if_neg h1, if_neg h5, if_pos h9, if_neg h10, if_neg h11, if_neg h12]; try rfl) rfl rfl rfl
      · skip
        refine am_split (fun h13 => ?_) (fun h13 => ?_)
        · skip
          refine am_call (eX_within q (0 : Int32) t _) ?_
          refine am_split (fun h14 => ?_) (fun h14 => ?_)
          · skip
            exact am_ri (S := sF_plainFits) (by unfold rF_plainFits; simp only [if_neg h1, if_neg h5, if_neg h9, if_pos h13, if_pos h14]; try rfl) rfl rfl rfl
          · skip
            refine am_call (eX_within r (0 : Int32) t _) ?_
            refine am_split (fun h15 => ?_) (fun h15 => ?_)
            · skip
              exact am_ri (S := sF_plainFits) (by unfold rF_plainFits; simp only [if_neg h1, if_neg h5, if_neg h9, if_pos h13, if_neg h14, if_pos h15]; try rfl) rfl rfl rfl
            · skip
              refine am_call (eX_within s (0 : Int32) t _) ?_
              refine am_split (fun h16 => ?_) (fun h16 => ?_)
              · skip
                exact am_ri (S := sF_plainFits) (by unfold rF_plainFits; simp only [if_neg h1, if_neg h5, if_neg h9, if_pos h13, if_neg h14, if_neg h15, if_pos h16]; try rfl) rfl rfl rfl
              · skip
                exact am_ri (S := sF_plainFits) (by unfold rF_plainFits; simp only [if_neg h1, if_neg h5, if_neg h9, if_pos h13, if_neg h14, if_neg h15, if_neg h16]; try rfl) rfl rfl rfl
        · skip
          refine am_split (fun h17 => ?_) (fun h17 => ?_)
          · skip
            refine am_call (eX_within q (0 : Int32) t _) ?_
            refine am_split (fun h18 => ?_) (fun h18 => ?_)
            · skip
              exact am_ri (S := sF_plainFits) (by unfold rF_plainFits; simp only [if_neg h1, if_neg h5, if_neg h9, if_neg h13, if_pos h17, if_pos h18]; try rfl) rfl rfl rfl
            · skip
              refine am_call (eX_within r (0 : Int32) t _) ?_
              refine am_split (fun h19 => ?_) (fun h19 => ?_)
              · skip
                exact am_ri (S := sF_plainFits) (by unfold rF_plainFits; simp only [if_neg h1, if_neg h5, if_neg h9, if_neg h13, if_pos h17, if_neg h18, if_pos h19]; try rfl) rfl rfl rfl
              · skip
                refine am_call (eF_isShort s _) ?_
                refine am_split (fun h20 => ?_) (fun h20 => ?_)
                · skip
                  exact am_ri (S := sF_plainFits) (by unfold rF_plainFits; simp only [if_neg h1, if_neg h5, if_neg h9, if_neg h13, if_pos h17, if_neg h18, if_neg h19, if_pos h20]; try rfl) rfl rfl rfl
                · skip
                  exact am_ri (S := sF_plainFits) (by unfold rF_plainFits; simp only [if_neg h1, if_neg h5, if_neg h9, if_neg h13, if_pos h17, if_neg h18, if_neg h19, if_neg h20]; try rfl) rfl rfl rfl
          · skip
            refine am_split (fun h21 => ?_) (fun h21 => ?_)
            · skip
              refine am_call (eX_within q (0 : Int32) t _) ?_
              refine am_split (fun h22 => ?_) (fun h22 => ?_)
              · skip
                exact am_ri (S := sF_plainFits) (by unfold rF_plainFits; simp only [if_neg h1, if_neg h5, if_neg h9, if_neg h13, if_neg h17, if_pos h21, if_pos h22]; try rfl) rfl rfl rfl
              · skip
                refine am_call (eX_within r (0 : Int32) (1048575 : Int32) _) ?_
                refine am_split (fun h23 => ?_) (fun h23 => ?_)
                · skip
                  exact am_ri (S := sF_plainFits) (by unfold rF_plainFits; simp only [if_neg h1, if_neg h5, if_neg h9, if_neg h13, if_neg h17, if_pos h21, if_neg h22, if_pos h23]; try rfl) rfl rfl rfl
                · skip
                  exact am_ri (S := sF_plainFits) (by unfold rF_plainFits; simp only [if_neg h1, if_neg h5, if_neg h9, if_neg h13, if_neg h17, if_pos h21, if_neg h22, if_neg h23]; try rfl) rfl rfl rfl
            · skip
              refine am_split (fun h24 => ?_) (fun h24 => ?_)
              · skip
                refine am_call (eX_within q (0 : Int32) t _) ?_
                refine am_split (fun h25 => ?_) (fun h25 => ?_)
                · skip
                  exact am_ri (S := sF_plainFits) (by unfold rF_plainFits; simp only [if_neg h1, if_neg h5, if_neg h9, if_neg h13, if_neg h17, if_neg h21, if_pos h24, if_pos h25]; try rfl) rfl rfl rfl
                · skip
                  refine am_call (eX_within r (0 : Int32) t _) ?_
                  refine am_split (fun h26 => ?_) (fun h26 => ?_)
                  · skip
                    exact am_ri (S := sF_plainFits) (by unfold rF_plainFits; simp only [if_neg h1, if_neg h5, if_neg h9, if_neg h13, if_neg h17, if_neg h21, if_pos h24, if_neg h25, if_pos h26]; try rfl) rfl rfl rfl
                  · skip
                    refine am_call (eF_isShort s _) ?_
                    refine am_split (fun h27 => ?_) (fun h27 => ?_)
                    · skip
                      exact am_ri (S := sF_plainFits) (by unfold rF_plainFits; simp only [if_neg h1, if_neg h5, if_neg h9, if_neg h13, if_neg h17, if_neg h21, if_pos h24, if_neg h25, if_neg h26, if_pos h27]; try rfl) rfl rfl rfl
                    · skip
                      exact am_ri (S := sF_plainFits) (by unfold rF_plainFits; simp only [if_neg h1, if_neg h5, if_neg h9, if_neg h13, if_neg h17, if_neg h21, if_pos h24, if_neg h25, if_neg h26, if_neg h27]; try rfl) rfl rfl rfl
              · skip
                refine am_split (fun h28 => ?_) (fun h28 => ?_)
                · skip
                  refine am_call (eX_within q (0 : Int32) t _) ?_
                  refine am_split (fun h29 => ?_) (fun h29 => ?_)
                  · skip
                    exact am_ri (S := sF_plainFits) (by unfold rF_plainFits; simp only [if_neg h1, if_neg h5, if_neg h9, if_neg h13, if_neg h17, if_neg h21, if_neg h24, if_pos h28, if_pos h29]; try rfl) rfl rfl rfl
                  · skip
                    refine am_call (eX_within r (0 : Int32) t _) ?_
                    refine am_split (fun h30 => ?_) (fun h30 => ?_)
                    · skip
                      exact am_ri (S := sF_plainFits) (by unfold rF_plainFits; simp only [if_neg h1, if_neg h5, if_neg h9, if_neg h13, if_neg h17, if_neg h21, if_neg h24, if_pos h28, if_neg h29, if_pos h30]; try rfl) rfl rfl rfl
                    · skip
                      refine am_call (eF_isShort s _) ?_
                      refine am_split (fun h31 => ?_) (fun h31 => ?_)
                      · skip
                        exact am_ri (S := sF_plainFits) (by unfold rF_plainFits; simp only [if_neg h1, if_neg h5, if_neg h9, if_neg h13, if_neg h17, if_neg h21, if_neg h24, if_pos h28, if_neg h29, if_neg h30, if_pos h31]; try rfl) rfl rfl rfl
                      · skip
                        exact am_ri (S := sF_plainFits) (by unfold rF_plainFits; simp only [if_neg h1, if_neg h5, if_neg h9, if_neg h13, if_neg h17, if_neg h21, if_neg h24, if_pos h28, if_neg h29, if_neg h30, if_neg h31]; try rfl) rfl rfl rfl
                · skip
                  refine am_split (fun h32 => ?_) (fun h32 => ?_)
                  · skip
                    exact am_ri (S := sF_plainFits) (by unfold rF_plainFits; simp only [if_neg h1, if_neg h5, if_neg h9, if_neg h13, if_neg h17, if_neg h21, if_neg h24, if_neg h28, if_pos h32]; try rfl) rfl rfl rfl
                  · skip
                    refine am_split (fun h33 => ?_) (fun h33 => ?_)
                    · skip
                      exact am_ri (S := sF_plainFits) (by unfold rF_plainFits; simp only [if_neg h1, if_neg h5, if_neg h9, if_neg h13, if_neg h17, if_neg h21, if_neg h24, if_neg h28, if_neg h32, if_pos h33]; try rfl) rfl rfl rfl
                    · skip
                      refine am_split (fun h34 => ?_) (fun h34 => ?_)
                      · skip
                        exact am_ri (S := sF_plainFits) (by unfold rF_plainFits; simp only [if_neg h1, if_neg h5, if_neg h9, if_neg h13, if_neg h17, if_neg h21, if_neg h24, if_neg h28, if_neg h32, if_neg h33, if_pos h34]; try rfl) rfl rfl rfl
                      · skip
                        refine am_split (fun h35 => ?_) (fun h35 => ?_)
                        · skip
                          exact am_ri (S := sF_plainFits) (by unfold rF_plainFits; simp only [if_neg h1, if_neg h5, if_neg h9, if_neg h13, if_neg h17, if_neg h21, if_neg h24, if_neg h28, if_neg h32, if_neg h33, if_neg h34, if_pos h35]; try rfl) rfl rfl rfl
                        · skip
                          refine am_split (fun h36 => ?_) (fun h36 => ?_)
                          · skip
                            exact am_ri (S := sF_plainFits) (by unfold rF_plainFits; simp only [if_neg h1, if_neg h5, if_neg h9, if_neg h13, if_neg h17, if_neg h21, if_neg h24, if_neg h28, if_neg h32, if_neg h33, if_neg h34, if_neg h35, if_pos h36]; try rfl) rfl rfl rfl
                          · skip
                            refine am_split (fun h37 => ?_) (fun h37 => ?_)
                            · skip
                              refine am_call (eX_within q (0 : Int32) t _) ?_
                              refine am_split (fun h38 => ?_) (fun h38 => ?_)
                              · skip
                                exact am_ri (S := sF_plainFits) (by unfold rF_plainFits; simp only [if_neg h1, if_neg h5, if_neg h9, if_neg h13, if_neg h17, if_neg h21, if_neg h24, if_neg h28, if_neg h32, if_neg h33, if_neg h34, if_neg h35, if_neg h36, if_pos h37, if_pos h38]; try rfl) rfl rfl rfl
                              · skip
                                refine am_call (eX_within r (-32 : Int32) (31 : Int32) _) ?_
                                refine am_split (fun h39 => ?_) (fun h39 => ?_)
                                · skip
                                  exact am_ri (S := sF_plainFits) (by unfold rF_plainFits; simp only [if_neg h1, if_neg h5, if_neg h9, if_neg h13, if_neg h17, if_neg h21, if_neg h24, if_neg h28, if_neg h32, if_neg h33, if_neg h34, if_neg h35, if_neg h36, if_pos h37, if_neg h38, if_pos h39]; try rfl) rfl rfl rfl
                                · skip
                                  refine am_split (fun h40 => ?_) (fun h40 => ?_)
                                  · skip
                                    refine am_split (fun h41 => ?_) (fun h41 => ?_)
                                    · skip
                                      refine am_split (fun _ => ?_) (fun hz => absurd (by decide) hz)
                                      exact am_ri (S := sF_plainFits) (by unfold rF_plainFits; simp only [if_neg h1, if_neg h5, if_neg h9, if_neg h13, if_neg h17, if_neg h21, if_neg h24, if_neg h28, if_neg h32, if_neg h33, if_neg h34, if_neg h35, if_neg h36, if_pos h37, if_neg h38, if_neg h39, if_pos h40, if_pos h41]; try rfl) rfl rfl rfl
                                    · skip
                                      refine am_split (fun hz => absurd hz (by decide)) (fun _ => ?_)
                                      exact am_ri (S := sF_plainFits) (by unfold rF_plainFits; simp only [if_neg h1, if_neg h5, if_neg h9, if_neg h13, if_neg h17, if_neg h21, if_neg h24, if_neg h28, if_neg h32, if_neg h33, if_neg h34, if_neg h35, if_neg h36, if_pos h37, if_neg h38, if_neg h39, if_pos h40, if_neg h41]; try rfl) rfl rfl rfl
                                  · skip
                                    refine am_split (fun h42 => ?_) (fun h42 => ?_)
                                    · skip
                                      refine am_split (fun hz => absurd hz (by decide)) (fun _ => ?_)
                                      exact am_ri (S := sF_plainFits) (by unfold rF_plainFits; simp only [if_neg h1, if_neg h5, if_neg h9, if_neg h13, if_neg h17, if_neg h21, if_neg h24, if_neg h28, if_neg h32, if_neg h33, if_neg h34, if_neg h35, if_neg h36, if_pos h37, if_neg h38, if_neg h39, if_neg h40, if_pos h42]; try rfl) rfl rfl rfl
                                    · skip
                                      refine am_split (fun _ => ?_) (fun hz => absurd (by decide) hz)
                                      exact am_ri (S := sF_plainFits) (by unfold rF_plainFits; simp only [if_neg h1, if_neg h5, if_neg h9, if_neg h13, if_neg h17, if_neg h21, if_neg h24, if_neg h28, if_neg h32, if_neg h33, if_neg h34, if_neg h35, if_neg h36, if_pos h37, if_neg h38, if_neg h39, if_neg h40, if_neg h42]; try rfl) rfl rfl rfl
                            · skip
                              refine am_split (fun h43 => ?_) (fun h43 => ?_)
                              · skip
                                refine am_call (eX_within q (1 : Int32) t _) ?_
                                refine am_split (fun h44 => ?_) (fun h44 => ?_)
                                · skip
                                  exact am_ri (S := sF_plainFits) (by unfold rF_plainFits; simp only [if_neg h1, if_neg h5, if_neg h9, if_neg h13, if_neg h17, if_neg h21, if_neg h24, if_neg h28, if_neg h32, if_neg h33, if_neg h34, if_neg h35, if_neg h36, if_neg h37, if_pos h43, if_pos h44]; try rfl) rfl rfl rfl
                                · skip
                                  refine am_call (eX_within r (1 : Int32) t _) ?_
                                  refine am_split (fun h45 => ?_) (fun h45 => ?_)
                                  · skip
                                    exact am_ri (S := sF_plainFits) (by unfold rF_plainFits; simp only [if_neg h1, if_neg h5, if_neg h9, if_neg h13, if_neg h17, if_neg h21, if_neg h24, if_neg h28, if_neg h32, if_neg h33, if_neg h34, if_neg h35, if_neg h36, if_neg h37, if_pos h43, if_neg h44, if_pos h45]; try rfl) rfl rfl rfl
                                  · skip
                                    exact am_ri (S := sF_plainFits) (by unfold rF_plainFits; simp only [if_neg h1, if_neg h5, if_neg h9, if_neg h13, if_neg h17, if_neg h21, if_neg h24, if_neg h28, if_neg h32, if_neg h33, if_neg h34, if_neg h35, if_neg h36, if_neg h37, if_pos h43, if_neg h44, if_neg h45]; try rfl) rfl rfl rfl
                              · skip
                                exact am_ri (S := sF_plainFits) (by unfold rF_plainFits; simp only [if_neg h1, if_neg h5, if_neg h9, if_neg h13, if_neg h17, if_neg h21, if_neg h24, if_neg h28, if_neg h32, if_neg h33, if_neg h34, if_neg h35, if_neg h36, if_neg h37, if_neg h43]; try rfl) rfl rfl rfl
theorem zoF_plainFits (p q r s t : Int32) : rF_plainFits p q r s t = 0 ∨ rF_plainFits p q r s t = 1 := by
  unfold rF_plainFits
  repeat' (first | with_reducible refine zo_ite ?_ ?_ | with_reducible exact Or.inl rfl | with_reducible exact Or.inr rfl)
noncomputable def rF_encodable (p q r s : Int32) : Int32 := if p = (8 : Int32) then if (rX_within q (0 : Int32) (31 : Int32)) = (0 : Int32) then (0 : Int32) else if (rX_within r (0 : Int32) (31 : Int32)) = (0 : Int32) then (0 : Int32) else if (rX_within s (-4096 : Int32) (4094 : Int32)) = (0 : Int32) then (0 : Int32) else if (s &&& (1 : Int32)) = (0 : Int32) then (1 : Int32) else (0 : Int32) else if p = (9 : Int32) then if (rX_within q (0 : Int32) (31 : Int32)) = (0 : Int32) then (0 : Int32) else if (rX_within r (0 : Int32) (31 : Int32)) = (0 : Int32) then (0 : Int32) else if (rX_within s (-4096 : Int32) (4094 : Int32)) = (0 : Int32) then (0 : Int32) else if (s &&& (1 : Int32)) = (0 : Int32) then (1 : Int32) else (0 : Int32) else if p = (10 : Int32) then if (rX_within q (0 : Int32) (31 : Int32)) = (0 : Int32) then (0 : Int32) else if (rX_within r (0 : Int32) (31 : Int32)) = (0 : Int32) then (0 : Int32) else if (rX_within s (-4096 : Int32) (4094 : Int32)) = (0 : Int32) then (0 : Int32) else if (s &&& (1 : Int32)) = (0 : Int32) then (1 : Int32) else (0 : Int32) else if p = (11 : Int32) then if (rX_within q (0 : Int32) (31 : Int32)) = (0 : Int32) then (0 : Int32) else if (rX_within r (-1048576 : Int32) (1048574 : Int32)) = (0 : Int32) then (0 : Int32) else if (r &&& (1 : Int32)) = (0 : Int32) then (1 : Int32) else (0 : Int32) else if p = (12 : Int32) then if (rX_within q (0 : Int32) (31 : Int32)) = (0 : Int32) then (0 : Int32) else if (rX_within r (0 : Int32) (31 : Int32)) = (0 : Int32) then (0 : Int32) else if (rF_isShort s) = (0 : Int32) then (0 : Int32) else (1 : Int32) else (rF_plainFits p q r s (31 : Int32))
set_option maxHeartbeats 4000000 in
set_option maxRecDepth 100000 in
theorem eF_encodable (p q r s : Int32) (ab : List am_Cl) : am_Ev sF_encodable [.int p, .int q, .int r, .int s] ab (some (.int (rF_encodable p q r s))) ab := by
  refine am_Ev_of cwF_encodable rfl rfl rfl (am_wp_T gdF_encodable 400 ?_)
  refine am_split (fun h1 => ?_) (fun h1 => ?_)
  · skip
    refine am_call (eX_within q (0 : Int32) (31 : Int32) _) ?_
    refine am_split (fun h2 => ?_) (fun h2 => ?_)
    · skip
      exact am_ri (S := sF_encodable) (by unfold rF_encodable; simp only [if_pos h1, if_pos h2]; try rfl) rfl rfl rfl
    · skip
      refine am_call (eX_within r (0 : Int32) (31 : Int32) _) ?_
      refine am_split (fun h3 => ?_) (fun h3 => ?_)
      · skip
        exact am_ri (S := sF_encodable) (by unfold rF_encodable; simp only [if_pos h1, if_neg h2, if_pos h3]; try rfl) rfl rfl rfl
      · skip
        refine am_call (eX_within s (-4096 : Int32) (4094 : Int32) _) ?_
        refine am_split (fun h4 => ?_) (fun h4 => ?_)
        · skip
          exact am_ri (S := sF_encodable) (by unfold rF_encodable; simp only [if_pos h1, if_neg h2, if_neg h3, if_pos h4]; try rfl) rfl rfl rfl
        · skip
          refine am_split (fun h5 => ?_) (fun h5 => ?_)
          · skip
            exact am_ri (S := sF_encodable) (by unfold rF_encodable; simp only [if_pos h1, if_neg h2, if_neg h3, if_neg h4, if_pos h5]; try rfl) rfl rfl rfl
          · skip
            exact am_ri (S := sF_encodable) (by unfold rF_encodable; simp only [if_pos h1, if_neg h2, if_neg h3, if_neg h4, if_neg h5]; try rfl) rfl rfl rfl
  · skip
    refine am_split (fun h6 => ?_) (fun h6 => ?_)
    · skip
      refine am_call (eX_within q (0 : Int32) (31 : Int32) _) ?_
      refine am_split (fun h7 => ?_) (fun h7 => ?_)
      · skip
        exact am_ri (S := sF_encodable) (by unfold rF_encodable; simp only [if_neg h1, if_pos h6, if_pos h7]; try rfl) rfl rfl rfl
      · skip
        refine am_call (eX_within r (0 : Int32) (31 : Int32) _) ?_
        refine am_split (fun h8 => ?_) (fun h8 => ?_)
        · skip
          exact am_ri (S := sF_encodable) (by unfold rF_encodable; simp only [if_neg h1, if_pos h6, if_neg h7, if_pos h8]; try rfl) rfl rfl rfl
        · skip
          refine am_call (eX_within s (-4096 : Int32) (4094 : Int32) _) ?_
          refine am_split (fun h9 => ?_) (fun h9 => ?_)
          · skip
            exact am_ri (S := sF_encodable) (by unfold rF_encodable; simp only [if_neg h1, if_pos h6, if_neg h7, if_neg h8, if_pos h9]; try rfl) rfl rfl rfl
          · skip
            refine am_split (fun h10 => ?_) (fun h10 => ?_)
            · skip
              exact am_ri (S := sF_encodable) (by unfold rF_encodable; simp only [if_neg h1, if_pos h6, if_neg h7, if_neg h8, if_neg h9, if_pos h10]; try rfl) rfl rfl rfl
            · skip
              exact am_ri (S := sF_encodable) (by unfold rF_encodable; simp only [if_neg h1, if_pos h6, if_neg h7, if_neg h8, if_neg h9, if_neg h10]; try rfl) rfl rfl rfl
    · skip
      refine am_split (fun h11 => ?_) (fun h11 => ?_)
      · skip
        refine am_call (eX_within q (0 : Int32) (31 : Int32) _) ?_
        refine am_split (fun h12 => ?_) (fun h12 => ?_)
        · skip
          exact am_ri (S := sF_encodable) (by unfold rF_encodable; simp only [if_neg h1, if_neg h6, if_pos h11, if_pos h12]; try rfl) rfl rfl rfl
        · skip
          refine am_call (eX_within r (0 : Int32) (31 : Int32) _) ?_
          refine am_split (fun h13 => ?_) (fun h13 => ?_)
          · skip
            exact am_ri (S := sF_encodable) (by unfold rF_encodable; simp only [if_neg h1, if_neg h6, if_pos h11, if_neg h12, if_pos h13]; try rfl) rfl rfl rfl
          · skip
            refine am_call (eX_within s (-4096 : Int32) (4094 : Int32) _) ?_
            refine am_split (fun h14 => ?_) (fun h14 => ?_)
            · skip
              exact am_ri (S := sF_encodable) (by unfold rF_encodable; simp only [if_neg h1, if_neg h6, if_pos h11, if_neg h12, if_neg h13, if_pos h14]; try rfl) rfl rfl rfl
            · skip
              refine am_split (fun h15 => ?_) (fun h15 => ?_)
              · skip
                exact am_ri (S := sF_encodable) (by unfold rF_encodable; simp only [if_neg h1, if_neg h6, if_pos h11, if_neg h12, if_neg h13, if_neg h14, if_pos h15]; try rfl) rfl rfl rfl
              · skip
                exact am_ri (S := sF_encodable) (by unfold rF_encodable; simp only [if_neg h1, if_neg h6, if_pos h11, if_neg h12, if_neg h13, if_neg h14, if_neg h15]; try rfl) rfl rfl rfl
      · skip
        refine am_split (fun h16 => ?_) (fun h16 => ?_)
        · skip
          refine am_call (eX_within q (0 : Int32) (31 : Int32) _) ?_
          refine am_split (fun h17 => ?_) (fun h17 => ?_)
          · skip
            exact am_ri (S := sF_encodable) (by unfold rF_encodable; simp only [if_neg h1, if_neg h6, if_neg h11, if_pos h16, if_pos h17]; try rfl) rfl rfl rfl
          · skip
            refine am_call (eX_within r (-1048576 : Int32) (1048574 : Int32) _) ?_
            refine am_split (fun h18 => ?_) (fun h18 => ?_)
            · skip
              exact am_ri (S := sF_encodable) (by unfold rF_encodable; simp only [if_neg h1, if_neg h6, if_neg h11, if_pos h16, if_neg h17, if_pos h18]; try rfl) rfl rfl rfl
            · skip
              refine am_split (fun h19 => ?_) (fun h19 => ?_)
              · skip
                exact am_ri (S := sF_encodable) (by unfold rF_encodable; simp only [if_neg h1, if_neg h6, if_neg h11, if_pos h16, if_neg h17, if_neg h18, if_pos h19]; try rfl) rfl rfl rfl
              · skip
                exact am_ri (S := sF_encodable) (by unfold rF_encodable; simp only [if_neg h1, if_neg h6, if_neg h11, if_pos h16, if_neg h17, if_neg h18, if_neg h19]; try rfl) rfl rfl rfl
        · skip
          refine am_split (fun h20 => ?_) (fun h20 => ?_)
          · skip
            refine am_call (eX_within q (0 : Int32) (31 : Int32) _) ?_
            refine am_split (fun h21 => ?_) (fun h21 => ?_)
            · skip
              exact am_ri (S := sF_encodable) (by unfold rF_encodable; simp only [if_neg h1, if_neg h6, if_neg h11, if_neg h16, if_pos h20, if_pos h21]; try rfl) rfl rfl rfl
            · skip
              refine am_call (eX_within r (0 : Int32) (31 : Int32) _) ?_
              refine am_split (fun h22 => ?_) (fun h22 => ?_)
              · skip
                exact am_ri (S := sF_encodable) (by unfold rF_encodable; simp only [if_neg h1, if_neg h6, if_neg h11, if_neg h16, if_pos h20, if_neg h21, if_pos h22]; try rfl) rfl rfl rfl
              · skip
                refine am_call (eF_isShort s _) ?_
                refine am_split (fun h23 => ?_) (fun h23 => ?_)
                · skip
                  exact am_ri (S := sF_encodable) (by unfold rF_encodable; simp only [if_neg h1, if_neg h6, if_neg h11, if_neg h16, if_pos h20, if_neg h21, if_neg h22, if_pos h23]; try rfl) rfl rfl rfl
                · skip
                  exact am_ri (S := sF_encodable) (by unfold rF_encodable; simp only [if_neg h1, if_neg h6, if_neg h11, if_neg h16, if_pos h20, if_neg h21, if_neg h22, if_neg h23]; try rfl) rfl rfl rfl
          · skip
            refine am_call (eF_plainFits p q r s (31 : Int32) _) ?_
            exact am_ri (S := sF_encodable) (by unfold rF_encodable; simp only [if_neg h1, if_neg h6, if_neg h11, if_neg h16, if_neg h20]; try rfl) rfl rfl (am_nz (zoF_plainFits p q r s (31 : Int32)))
theorem zoF_encodable (p q r s : Int32) : rF_encodable p q r s = 0 ∨ rF_encodable p q r s = 1 := by
  unfold rF_encodable
  repeat' (first | with_reducible refine zo_ite ?_ ?_ | with_reducible exact zoF_plainFits .. | with_reducible exact Or.inl rfl | with_reducible exact Or.inr rfl)
noncomputable def rF_pack (p q r s : Int32) : Int32 := if p = (0 : Int32) then (rF_threeRegisters (0 : Int32) (0 : Int32) q r s) else if p = (1 : Int32) then (rF_threeRegisters (32 : Int32) (0 : Int32) q r s) else if p = (2 : Int32) then (rF_threeRegisters (0 : Int32) (7 : Int32) q r s) else if p = (3 : Int32) then (rF_threeRegisters (0 : Int32) (6 : Int32) q r s) else if p = (4 : Int32) then (rF_withShort (0 : Int32) (19 : Int32) q r s) else if p = (5 : Int32) then (((r <<< ((12 : Int32) &&& 31)) ||| (q <<< ((7 : Int32) &&& 31))) ||| (55 : Int32)) else if p = (6 : Int32) then (rF_withShort (2 : Int32) (3 : Int32) q r s) else if p = (7 : Int32) then (((((((s >>> ((5 : Int32) &&& 31)) <<< ((25 : Int32) &&& 31)) ||| (q <<< ((20 : Int32) &&& 31))) ||| (r <<< ((15 : Int32) &&& 31))) ||| (8192 : Int32)) ||| ((s &&& (31 : Int32)) <<< ((7 : Int32) &&& 31))) ||| (35 : Int32)) else if p = (8 : Int32) then (rF_branch (0 : Int32) q r s) else if p = (9 : Int32) then (rF_branch (1 : Int32) q r s) else if p = (10 : Int32) then (rF_branch (4 : Int32) q r s) else if p = (11 : Int32) then (rF_jump q r) else if p = (12 : Int32) then (rF_withShort (0 : Int32) (103 : Int32) q r s) else if p = (13 : Int32) then ((((((r >>> ((5 : Int32) &&& 31)) &&& (1 : Int32)) <<< ((12 : Int32) &&& 31)) ||| (q <<< ((7 : Int32) &&& 31))) ||| ((r &&& (31 : Int32)) <<< ((2 : Int32) &&& 31))) ||| (1 : Int32)) else if p = (14 : Int32) then ((((32768 : Int32) ||| (q <<< ((7 : Int32) &&& 31))) ||| (r <<< ((2 : Int32) &&& 31))) ||| (2 : Int32)) else (-1 : Int32)
set_option maxHeartbeats 4000000 in
set_option maxRecDepth 100000 in
theorem eF_pack (p q r s : Int32) (ab : List am_Cl) : am_Ev sF_pack [.int p, .int q, .int r, .int s] ab (some (.int (rF_pack p q r s))) ab := by
  refine am_Ev_of cwF_pack rfl rfl rfl (am_wp_T gdF_pack 400 ?_)
  refine am_split (fun h1 => ?_) (fun h1 => ?_)
  · skip
    refine am_call (eF_threeRegisters (0 : Int32) (0 : Int32) q r s _) ?_
    exact am_ri (S := sF_pack) (by unfold rF_pack; simp only [if_pos h1]; try rfl) rfl rfl rfl
  · skip
    refine am_split (fun h2 => ?_) (fun h2 => ?_)
    · skip
      refine am_call (eF_threeRegisters (32 : Int32) (0 : Int32) q r s _) ?_
      exact am_ri (S := sF_pack) (by unfold rF_pack; simp only [if_neg h1, if_pos h2]; try rfl) rfl rfl rfl
    · skip
      refine am_split (fun h3 => ?_) (fun h3 => ?_)
      · skip
        refine am_call (eF_threeRegisters (0 : Int32) (7 : Int32) q r s _) ?_
        exact am_ri (S := sF_pack) (by unfold rF_pack; simp only [if_neg h1, if_neg h2, if_pos h3]; try rfl) rfl rfl rfl
      · skip
        refine am_split (fun h4 => ?_) (fun h4 => ?_)
        · skip
          refine am_call (eF_threeRegisters (0 : Int32) (6 : Int32) q r s _) ?_
          exact am_ri (S := sF_pack) (by unfold rF_pack; simp only [if_neg h1, if_neg h2, if_neg h3, if_pos h4]; try rfl) rfl rfl rfl
        · skip
          refine am_split (fun h5 => ?_) (fun h5 => ?_)
          · skip
            refine am_call (eF_withShort (0 : Int32) (19 : Int32) q r s _) ?_
            exact am_ri (S := sF_pack) (by unfold rF_pack; simp only [if_neg h1, if_neg h2, if_neg h3, if_neg h4, if_pos h5]; try rfl) rfl rfl rfl
          · skip
            refine am_split (fun h6 => ?_) (fun h6 => ?_)
            · skip
              exact am_ri (S := sF_pack) (by unfold rF_pack; simp only [if_neg h1, if_neg h2, if_neg h3, if_neg h4, if_neg h5, if_pos h6]; try rfl) rfl rfl rfl
            · skip
              refine am_split (fun h7 => ?_) (fun h7 => ?_)
              · skip
                refine am_call (eF_withShort (2 : Int32) (3 : Int32) q r s _) ?_
                exact am_ri (S := sF_pack) (by unfold rF_pack; simp only [if_neg h1, if_neg h2, if_neg h3, if_neg h4, if_neg h5, if_neg h6, if_pos h7]; try rfl) rfl rfl rfl
              · skip
                refine am_split (fun h8 => ?_) (fun h8 => ?_)
                · skip
                  exact am_ri (S := sF_pack) (by unfold rF_pack; simp only [if_neg h1, if_neg h2, if_neg h3, if_neg h4, if_neg h5, if_neg h6, if_neg h7, if_pos h8]; try rfl) rfl rfl rfl
                · skip
                  refine am_split (fun h9 => ?_) (fun h9 => ?_)
                  · skip
                    refine am_call (eF_branch (0 : Int32) q r s _) ?_
                    exact am_ri (S := sF_pack) (by unfold rF_pack; simp only [if_neg h1, if_neg h2, if_neg h3, if_neg h4, if_neg h5, if_neg h6, if_neg h7, if_neg h8, if_pos h9]; try rfl) rfl rfl rfl
                  · skip
                    refine am_split (fun h10 => ?_) (fun h10 => ?_)
                    · skip
                      refine am_call (eF_branch (1 : Int32) q r s _) ?_
                      exact am_ri (S := sF_pack) (by unfold rF_pack; simp only [if_neg h1, if_neg h2, if_neg h3, if_neg h4, if_neg h5, if_neg h6, if_neg h7, if_neg h8, if_neg h9, if_pos h10]; try rfl) rfl rfl rfl
                    · skip
                      refine am_split (fun h11 => ?_) (fun h11 => ?_)
                      · skip
                        refine am_call (eF_branch (4 : Int32) q r s _) ?_
                        exact am_ri (S := sF_pack) (by unfold rF_pack; simp only [if_neg h1, if_neg h2, if_neg h3, if_neg h4, if_neg h5, if_neg h6, if_neg h7, if_neg h8, if_neg h9, if_neg h10, if_pos h11]; try rfl) rfl rfl rfl
                      · skip
                        refine am_split (fun h12 => ?_) (fun h12 => ?_)
                        · skip
                          refine am_call (eF_jump q r _) ?_
                          exact am_ri (S := sF_pack) (by unfold rF_pack; simp only [if_neg h1, if_neg h2, if_neg h3, if_neg h4, if_neg h5, if_neg h6, if_neg h7, if_neg h8, if_neg h9, if_neg h10, if_neg h11, if_pos h12]; try rfl) rfl rfl rfl
                        · skip
                          refine am_split (fun h13 => ?_) (fun h13 => ?_)
                          · skip
                            refine am_call (eF_withShort (0 : Int32) (103 : Int32) q r s _) ?_
                            exact am_ri (S := sF_pack) (by unfold rF_pack; simp only [if_neg h1, if_neg h2, if_neg h3, if_neg h4, if_neg h5, if_neg h6, if_neg h7, if_neg h8, if_neg h9, if_neg h10, if_neg h11, if_neg h12, if_pos h13]; try rfl) rfl rfl rfl
                          · skip
                            refine am_split (fun h14 => ?_) (fun h14 => ?_)
                            · skip
                              exact am_ri (S := sF_pack) (by unfold rF_pack; simp only [if_neg h1, if_neg h2, if_neg h3, if_neg h4, if_neg h5, if_neg h6, if_neg h7, if_neg h8, if_neg h9, if_neg h10, if_neg h11, if_neg h12, if_neg h13, if_pos h14]; try rfl) rfl rfl rfl
                            · skip
                              refine am_split (fun h15 => ?_) (fun h15 => ?_)
                              · skip
                                exact am_ri (S := sF_pack) (by unfold rF_pack; simp only [if_neg h1, if_neg h2, if_neg h3, if_neg h4, if_neg h5, if_neg h6, if_neg h7, if_neg h8, if_neg h9, if_neg h10, if_neg h11, if_neg h12, if_neg h13, if_neg h14, if_pos h15]; try rfl) rfl rfl rfl
                              · skip
                                exact am_ri (S := sF_pack) (by unfold rF_pack; simp only [if_neg h1, if_neg h2, if_neg h3, if_neg h4, if_neg h5, if_neg h6, if_neg h7, if_neg h8, if_neg h9, if_neg h10, if_neg h11, if_neg h12, if_neg h13, if_neg h14, if_neg h15]; try rfl) rfl rfl rfl
noncomputable def rF_shortKindOf (p : Int32) : Int32 := if (rF_lowRegister p) = (0 : Int32) then if (p &&& (57347 : Int32)) = (1 : Int32) then if (rF_shortNumber p) = (0 : Int32) then (13 : Int32) else (-1 : Int32) else if (p &&& (61443 : Int32)) = (32770 : Int32) then (-1 : Int32) else (-1 : Int32) else if (p &&& (57347 : Int32)) = (1 : Int32) then if (rF_shortNumber p) = (0 : Int32) then (-1 : Int32) else (13 : Int32) else if (p &&& (61443 : Int32)) = (32770 : Int32) then if (rF_shortRegister p) = (0 : Int32) then (-1 : Int32) else (14 : Int32) else (-1 : Int32)
set_option maxHeartbeats 4000000 in
set_option maxRecDepth 100000 in
theorem eF_shortKindOf (p : Int32) (ab : List am_Cl) : am_Ev sF_shortKindOf [.int p] ab (some (.int (rF_shortKindOf p))) ab := by
  refine am_Ev_of cwF_shortKindOf rfl rfl rfl (am_wp_T gdF_shortKindOf 400 ?_)
  refine am_call (eF_lowRegister p _) ?_
  refine am_split (fun h1 => ?_) (fun h1 => ?_)
  · skip
    refine am_split (fun h2 => ?_) (fun h2 => ?_)
    · skip
      refine am_call (eF_shortNumber p _) ?_
      refine am_split (fun h3 => ?_) (fun h3 => ?_)
      · skip
        refine am_split (fun _ => ?_) (fun hz => absurd (by decide) hz)
        exact am_ri (S := sF_shortKindOf) (by unfold rF_shortKindOf; simp only [if_pos h1, if_pos h2, if_pos h3]; try rfl) rfl rfl rfl
      · skip
        refine am_split (fun hz => absurd hz (by decide)) (fun _ => ?_)
        exact am_ri (S := sF_shortKindOf) (by unfold rF_shortKindOf; simp only [if_pos h1, if_pos h2, if_neg h3]; try rfl) rfl rfl rfl
    · skip
      refine am_split (fun h4 => ?_) (fun h4 => ?_)
      · skip
        refine am_split (fun hz => absurd hz (by decide)) (fun _ => ?_)
        refine am_split (fun hz => absurd hz (by decide)) (fun _ => ?_)
        exact am_ri (S := sF_shortKindOf) (by unfold rF_shortKindOf; simp only [if_pos h1, if_neg h2, if_pos h4]; try rfl) rfl rfl rfl
      · skip
        refine am_split (fun _ => ?_) (fun hz => absurd (by decide) hz)
        exact am_ri (S := sF_shortKindOf) (by unfold rF_shortKindOf; simp only [if_pos h1, if_neg h2, if_neg h4]; try rfl) rfl rfl rfl
  · skip
    refine am_split (fun h5 => ?_) (fun h5 => ?_)
    · skip
      refine am_call (eF_shortNumber p _) ?_
      refine am_split (fun h6 => ?_) (fun h6 => ?_)
      · skip
        refine am_split (fun hz => absurd hz (by decide)) (fun _ => ?_)
        exact am_ri (S := sF_shortKindOf) (by unfold rF_shortKindOf; simp only [if_neg h1, if_pos h5, if_pos h6]; try rfl) rfl rfl rfl
      · skip
        refine am_split (fun _ => ?_) (fun hz => absurd (by decide) hz)
        exact am_ri (S := sF_shortKindOf) (by unfold rF_shortKindOf; simp only [if_neg h1, if_pos h5, if_neg h6]; try rfl) rfl rfl rfl
    · skip
      refine am_split (fun h7 => ?_) (fun h7 => ?_)
      · skip
        refine am_split (fun hz => absurd hz (by decide)) (fun _ => ?_)
        refine am_split (fun _ => ?_) (fun hz => absurd (by decide) hz)
        refine am_call (eF_shortRegister p _) ?_
        refine am_split (fun h8 => ?_) (fun h8 => ?_)
        · skip
          exact am_ri (S := sF_shortKindOf) (by unfold rF_shortKindOf; simp only [if_neg h1, if_neg h5, if_pos h7, if_pos h8]; try rfl) rfl rfl rfl
        · skip
          exact am_ri (S := sF_shortKindOf) (by unfold rF_shortKindOf; simp only [if_neg h1, if_neg h5, if_pos h7, if_neg h8]; try rfl) rfl rfl rfl
      · skip
        refine am_split (fun _ => ?_) (fun hz => absurd (by decide) hz)
        exact am_ri (S := sF_shortKindOf) (by unfold rF_shortKindOf; simp only [if_neg h1, if_neg h5, if_neg h7]; try rfl) rfl rfl rfl
noncomputable def rF_kindOf (p : Int32) : Int32 := if (rF_isLong p) = (0 : Int32) then (rF_shortKindOf p) else if (p &&& (127 : Int32)) = (3 : Int32) then if ((Int32.toUInt32 p >>> (Int32.toUInt32 (12 : Int32) &&& Int32.toUInt32 31)).toInt32 &&& (7 : Int32)) = (2 : Int32) then (6 : Int32) else (-1 : Int32) else if (p &&& (127 : Int32)) = (19 : Int32) then if ((Int32.toUInt32 p >>> (Int32.toUInt32 (12 : Int32) &&& Int32.toUInt32 31)).toInt32 &&& (7 : Int32)) = (0 : Int32) then (4 : Int32) else (-1 : Int32) else if (p &&& (127 : Int32)) = (35 : Int32) then if ((Int32.toUInt32 p >>> (Int32.toUInt32 (12 : Int32) &&& Int32.toUInt32 31)).toInt32 &&& (7 : Int32)) = (2 : Int32) then (7 : Int32) else (-1 : Int32) else if (p &&& (127 : Int32)) = (51 : Int32) then (rF_arithmeticKindOf (Int32.toUInt32 p >>> (Int32.toUInt32 (25 : Int32) &&& Int32.toUInt32 31)).toInt32 ((Int32.toUInt32 p >>> (Int32.toUInt32 (12 : Int32) &&& Int32.toUInt32 31)).toInt32 &&& (7 : Int32))) else if (p &&& (127 : Int32)) = (55 : Int32) then (5 : Int32) else if (p &&& (127 : Int32)) = (99 : Int32) then (rF_branchKindOf ((Int32.toUInt32 p >>> (Int32.toUInt32 (12 : Int32) &&& Int32.toUInt32 31)).toInt32 &&& (7 : Int32))) else if (p &&& (127 : Int32)) = (103 : Int32) then if ((Int32.toUInt32 p >>> (Int32.toUInt32 (12 : Int32) &&& Int32.toUInt32 31)).toInt32 &&& (7 : Int32)) = (0 : Int32) then (12 : Int32) else (-1 : Int32) else if (p &&& (127 : Int32)) = (111 : Int32) then (11 : Int32) else (-1 : Int32)
set_option maxHeartbeats 4000000 in
set_option maxRecDepth 100000 in
theorem eF_kindOf (p : Int32) (ab : List am_Cl) : am_Ev sF_kindOf [.int p] ab (some (.int (rF_kindOf p))) ab := by
  refine am_Ev_of cwF_kindOf rfl rfl rfl (am_wp_T gdF_kindOf 400 ?_)
  refine am_call (eF_isLong p _) ?_
  refine am_split (fun h1 => ?_) (fun h1 => ?_)
  · skip
    refine am_call (eF_shortKindOf p _) ?_
    exact am_ri (S := sF_kindOf) (by unfold rF_kindOf; simp only [if_pos h1]; try rfl) rfl rfl rfl
  · skip
    refine am_split (fun h2 => ?_) (fun h2 => ?_)
    · skip
      refine am_split (fun h3 => ?_) (fun h3 => ?_)
      · skip
        exact am_ri (S := sF_kindOf) (by unfold rF_kindOf; simp only [if_neg h1, if_pos h2, if_pos h3]; try rfl) rfl rfl rfl
      · skip
        exact am_ri (S := sF_kindOf) (by unfold rF_kindOf; simp only [if_neg h1, if_pos h2, if_neg h3]; try rfl) rfl rfl rfl
    · skip
      refine am_split (fun h4 => ?_) (fun h4 => ?_)
      · skip
        refine am_split (fun h5 => ?_) (fun h5 => ?_)
        · skip
          exact am_ri (S := sF_kindOf) (by unfold rF_kindOf; simp only [if_neg h1, if_neg h2, if_pos h4, if_pos h5]; try rfl) rfl rfl rfl
        · skip
          exact am_ri (S := sF_kindOf) (by unfold rF_kindOf; simp only [if_neg h1, if_neg h2, if_pos h4, if_neg h5]; try rfl) rfl rfl rfl
      · skip
        refine am_split (fun h6 => ?_) (fun h6 => ?_)
        · skip
          refine am_split (fun h7 => ?_) (fun h7 => ?_)
          · skip
            exact am_ri (S := sF_kindOf) (by unfold rF_kindOf; simp only [if_neg h1, if_neg h2, if_neg h4, if_pos h6, if_pos h7]; try rfl) rfl rfl rfl
          · skip
            exact am_ri (S := sF_kindOf) (by unfold rF_kindOf; simp only [if_neg h1, if_neg h2, if_neg h4, if_pos h6, if_neg h7]; try rfl) rfl rfl rfl
        · skip
          refine am_split (fun h8 => ?_) (fun h8 => ?_)
          · skip
            refine am_call (eF_arithmeticKindOf (Int32.toUInt32 p >>> (Int32.toUInt32 (25 : Int32) &&& Int32.toUInt32 31)).toInt32 ((Int32.toUInt32 p >>> (Int32.toUInt32 (12 : Int32) &&& Int32.toUInt32 31)).toInt32 &&& (7 : Int32)) _) ?_
            exact am_ri (S := sF_kindOf) (by unfold rF_kindOf; simp only [if_neg h1, if_neg h2, if_neg h4, if_neg h6, if_pos h8]; try rfl) rfl rfl rfl
          · skip
            refine am_split (fun h9 => ?_) (fun h9 => ?_)
            · skip
              exact am_ri (S := sF_kindOf) (by unfold rF_kindOf; simp only [if_neg h1, if_neg h2, if_neg h4, if_neg h6, if_neg h8, if_pos h9]; try rfl) rfl rfl rfl
            · skip
              refine am_split (fun h10 => ?_) (fun h10 => ?_)
              · skip
                refine am_call (eF_branchKindOf ((Int32.toUInt32 p >>> (Int32.toUInt32 (12 : Int32) &&& Int32.toUInt32 31)).toInt32 &&& (7 : Int32)) _) ?_
                exact am_ri (S := sF_kindOf) (by unfold rF_kindOf; simp only [if_neg h1, if_neg h2, if_neg h4, if_neg h6, if_neg h8, if_neg h9, if_pos h10]; try rfl) rfl rfl rfl
              · skip
                refine am_split (fun h11 => ?_) (fun h11 => ?_)
                · skip
                  refine am_split (fun h12 => ?_) (fun h12 => ?_)
                  · skip
                    exact am_ri (S := sF_kindOf) (by unfold rF_kindOf; simp only [if_neg h1, if_neg h2, if_neg h4, if_neg h6, if_neg h8, if_neg h9, if_neg h10, if_pos h11, if_pos h12]; try rfl) rfl rfl rfl
                  · skip
                    exact am_ri (S := sF_kindOf) (by unfold rF_kindOf; simp only [if_neg h1, if_neg h2, if_neg h4, if_neg h6, if_neg h8, if_neg h9, if_neg h10, if_pos h11, if_neg h12]; try rfl) rfl rfl rfl
                · skip
                  refine am_split (fun h13 => ?_) (fun h13 => ?_)
                  · skip
                    exact am_ri (S := sF_kindOf) (by unfold rF_kindOf; simp only [if_neg h1, if_neg h2, if_neg h4, if_neg h6, if_neg h8, if_neg h9, if_neg h10, if_neg h11, if_pos h13]; try rfl) rfl rfl rfl
                  · skip
                    exact am_ri (S := sF_kindOf) (by unfold rF_kindOf; simp only [if_neg h1, if_neg h2, if_neg h4, if_neg h6, if_neg h8, if_neg h9, if_neg h10, if_neg h11, if_neg h13]; try rfl) rfl rfl rfl
noncomputable def rF_firstOf (p q : Int32) : Int32 := if p = (7 : Int32) then (rF_highRegister q) else if p = (8 : Int32) then (rF_middleRegister q) else if p = (9 : Int32) then (rF_middleRegister q) else if p = (10 : Int32) then (rF_middleRegister q) else (rF_lowRegister q)
set_option maxHeartbeats 4000000 in
set_option maxRecDepth 100000 in
theorem eF_firstOf (p q : Int32) (ab : List am_Cl) : am_Ev sF_firstOf [.int p, .int q] ab (some (.int (rF_firstOf p q))) ab := by
  refine am_Ev_of cwF_firstOf rfl rfl rfl (am_wp_T gdF_firstOf 400 ?_)
  refine am_split (fun h1 => ?_) (fun h1 => ?_)
  · skip
    refine am_call (eF_highRegister q _) ?_
    exact am_ri (S := sF_firstOf) (by unfold rF_firstOf; simp only [if_pos h1]; try rfl) rfl rfl rfl
  · skip
    refine am_split (fun h2 => ?_) (fun h2 => ?_)
    · skip
      refine am_call (eF_middleRegister q _) ?_
      exact am_ri (S := sF_firstOf) (by unfold rF_firstOf; simp only [if_neg h1, if_pos h2]; try rfl) rfl rfl rfl
    · skip
      refine am_split (fun h3 => ?_) (fun h3 => ?_)
      · skip
        refine am_call (eF_middleRegister q _) ?_
        exact am_ri (S := sF_firstOf) (by unfold rF_firstOf; simp only [if_neg h1, if_neg h2, if_pos h3]; try rfl) rfl rfl rfl
      · skip
        refine am_split (fun h4 => ?_) (fun h4 => ?_)
        · skip
          refine am_call (eF_middleRegister q _) ?_
          exact am_ri (S := sF_firstOf) (by unfold rF_firstOf; simp only [if_neg h1, if_neg h2, if_neg h3, if_pos h4]; try rfl) rfl rfl rfl
        · skip
          refine am_call (eF_lowRegister q _) ?_
          exact am_ri (S := sF_firstOf) (by unfold rF_firstOf; simp only [if_neg h1, if_neg h2, if_neg h3, if_neg h4]; try rfl) rfl rfl rfl
noncomputable def rF_secondOf (p q : Int32) : Int32 := if p = (5 : Int32) then (Int32.toUInt32 q >>> (Int32.toUInt32 (12 : Int32) &&& Int32.toUInt32 31)).toInt32 else if p = (6 : Int32) then (rF_middleRegister q) else if p = (7 : Int32) then (rF_middleRegister q) else if p = (8 : Int32) then (rF_highRegister q) else if p = (9 : Int32) then (rF_highRegister q) else if p = (10 : Int32) then (rF_highRegister q) else if p = (11 : Int32) then (rF_jumpOffset q) else if p = (12 : Int32) then (rF_middleRegister q) else if p = (13 : Int32) then (rF_shortNumber q) else if p = (14 : Int32) then (rF_shortRegister q) else (rF_middleRegister q)
set_option maxHeartbeats 4000000 in
set_option maxRecDepth 100000 in
theorem eF_secondOf (p q : Int32) (ab : List am_Cl) : am_Ev sF_secondOf [.int p, .int q] ab (some (.int (rF_secondOf p q))) ab := by
  refine am_Ev_of cwF_secondOf rfl rfl rfl (am_wp_T gdF_secondOf 400 ?_)
  refine am_split (fun h1 => ?_) (fun h1 => ?_)
  · skip
    exact am_ri (S := sF_secondOf) (by unfold rF_secondOf; simp only [if_pos h1]; try rfl) rfl rfl rfl
  · skip
    refine am_split (fun h2 => ?_) (fun h2 => ?_)
    · skip
      refine am_call (eF_middleRegister q _) ?_
      exact am_ri (S := sF_secondOf) (by unfold rF_secondOf; simp only [if_neg h1, if_pos h2]; try rfl) rfl rfl rfl
    · skip
      refine am_split (fun h3 => ?_) (fun h3 => ?_)
      · skip
        refine am_call (eF_middleRegister q _) ?_
        exact am_ri (S := sF_secondOf) (by unfold rF_secondOf; simp only [if_neg h1, if_neg h2, if_pos h3]; try rfl) rfl rfl rfl
      · skip
        refine am_split (fun h4 => ?_) (fun h4 => ?_)
        · skip
          refine am_call (eF_highRegister q _) ?_
          exact am_ri (S := sF_secondOf) (by unfold rF_secondOf; simp only [if_neg h1, if_neg h2, if_neg h3, if_pos h4]; try rfl) rfl rfl rfl
        · skip
          refine am_split (fun h5 => ?_) (fun h5 => ?_)
          · skip
            refine am_call (eF_highRegister q _) ?_
            exact am_ri (S := sF_secondOf) (by unfold rF_secondOf; simp only [if_neg h1, if_neg h2, if_neg h3, if_neg h4, if_pos h5]; try rfl) rfl rfl rfl
          · skip
            refine am_split (fun h6 => ?_) (fun h6 => ?_)
            · skip
              refine am_call (eF_highRegister q _) ?_
              exact am_ri (S := sF_secondOf) (by unfold rF_secondOf; simp only [if_neg h1, if_neg h2, if_neg h3, if_neg h4, if_neg h5, if_pos h6]; try rfl) rfl rfl rfl
            · skip
              refine am_split (fun h7 => ?_) (fun h7 => ?_)
              · skip
                refine am_call (eF_jumpOffset q _) ?_
                exact am_ri (S := sF_secondOf) (by unfold rF_secondOf; simp only [if_neg h1, if_neg h2, if_neg h3, if_neg h4, if_neg h5, if_neg h6, if_pos h7]; try rfl) rfl rfl rfl
              · skip
                refine am_split (fun h8 => ?_) (fun h8 => ?_)
                · skip
                  refine am_call (eF_middleRegister q _) ?_
                  exact am_ri (S := sF_secondOf) (by unfold rF_secondOf; simp only [if_neg h1, if_neg h2, if_neg h3, if_neg h4, if_neg h5, if_neg h6, if_neg h7, if_pos h8]; try rfl) rfl rfl rfl
                · skip
                  refine am_split (fun h9 => ?_) (fun h9 => ?_)
                  · skip
                    refine am_call (eF_shortNumber q _) ?_
                    exact am_ri (S := sF_secondOf) (by unfold rF_secondOf; simp only [if_neg h1, if_neg h2, if_neg h3, if_neg h4, if_neg h5, if_neg h6, if_neg h7, if_neg h8, if_pos h9]; try rfl) rfl rfl rfl
                  · skip
                    refine am_split (fun h10 => ?_) (fun h10 => ?_)
                    · skip
                      refine am_call (eF_shortRegister q _) ?_
                      exact am_ri (S := sF_secondOf) (by unfold rF_secondOf; simp only [if_neg h1, if_neg h2, if_neg h3, if_neg h4, if_neg h5, if_neg h6, if_neg h7, if_neg h8, if_neg h9, if_pos h10]; try rfl) rfl rfl rfl
                    · skip
                      refine am_call (eF_middleRegister q _) ?_
                      exact am_ri (S := sF_secondOf) (by unfold rF_secondOf; simp only [if_neg h1, if_neg h2, if_neg h3, if_neg h4, if_neg h5, if_neg h6, if_neg h7, if_neg h8, if_neg h9, if_neg h10]; try rfl) rfl rfl rfl
noncomputable def rF_thirdOf (p q : Int32) : Int32 := if p = (0 : Int32) then (rF_highRegister q) else if p = (1 : Int32) then (rF_highRegister q) else if p = (2 : Int32) then (rF_highRegister q) else if p = (3 : Int32) then (rF_highRegister q) else if p = (4 : Int32) then (q >>> ((20 : Int32) &&& 31)) else if p = (5 : Int32) then (0 : Int32) else if p = (6 : Int32) then (q >>> ((20 : Int32) &&& 31)) else if p = (7 : Int32) then (((q >>> ((25 : Int32) &&& 31)) <<< ((5 : Int32) &&& 31)) ||| (rF_lowRegister q)) else if p = (8 : Int32) then (rF_branchOffset q) else if p = (9 : Int32) then (rF_branchOffset q) else if p = (10 : Int32) then (rF_branchOffset q) else if p = (11 : Int32) then (0 : Int32) else if p = (12 : Int32) then (q >>> ((20 : Int32) &&& 31)) else (0 : Int32)
set_option maxHeartbeats 4000000 in
set_option maxRecDepth 100000 in
theorem eF_thirdOf (p q : Int32) (ab : List am_Cl) : am_Ev sF_thirdOf [.int p, .int q] ab (some (.int (rF_thirdOf p q))) ab := by
  refine am_Ev_of cwF_thirdOf rfl rfl rfl (am_wp_T gdF_thirdOf 400 ?_)
  refine am_split (fun h1 => ?_) (fun h1 => ?_)
  · skip
    refine am_call (eF_highRegister q _) ?_
    exact am_ri (S := sF_thirdOf) (by unfold rF_thirdOf; simp only [if_pos h1]; try rfl) rfl rfl rfl
  · skip
    refine am_split (fun h2 => ?_) (fun h2 => ?_)
    · skip
      refine am_call (eF_highRegister q _) ?_
      exact am_ri (S := sF_thirdOf) (by unfold rF_thirdOf; simp only [if_neg h1, if_pos h2]; try rfl) rfl rfl rfl
    · skip
      refine am_split (fun h3 => ?_) (fun h3 => ?_)
      · skip
        refine am_call (eF_highRegister q _) ?_
        exact am_ri (S := sF_thirdOf) (by unfold rF_thirdOf; simp only [if_neg h1, if_neg h2, if_pos h3]; try rfl) rfl rfl rfl
      · skip
        refine am_split (fun h4 => ?_) (fun h4 => ?_)
        · skip
          refine am_call (eF_highRegister q _) ?_
          exact am_ri (S := sF_thirdOf) (by unfold rF_thirdOf; simp only [if_neg h1, if_neg h2, if_neg h3, if_pos h4]; try rfl) rfl rfl rfl
        · skip
          refine am_split (fun h5 => ?_) (fun h5 => ?_)
          · skip
            exact am_ri (S := sF_thirdOf) (by unfold rF_thirdOf; simp only [if_neg h1, if_neg h2, if_neg h3, if_neg h4, if_pos h5]; try rfl) rfl rfl rfl
          · skip
            refine am_split (fun h6 => ?_) (fun h6 => ?_)
            · skip
              exact am_ri (S := sF_thirdOf) (by unfold rF_thirdOf; simp only [if_neg h1, if_neg h2, if_neg h3, if_neg h4, if_neg h5, if_pos h6]; try rfl) rfl rfl rfl
            · skip
              refine am_split (fun h7 => ?_) (fun h7 => ?_)
              · skip
                exact am_ri (S := sF_thirdOf) (by unfold rF_thirdOf; simp only [if_neg h1, if_neg h2, if_neg h3, if_neg h4, if_neg h5, if_neg h6, if_pos h7]; try rfl) rfl rfl rfl
              · skip
                refine am_split (fun h8 => ?_) (fun h8 => ?_)
                · skip
                  refine am_call (eF_lowRegister q _) ?_
                  exact am_ri (S := sF_thirdOf) (by unfold rF_thirdOf; simp only [if_neg h1, if_neg h2, if_neg h3, if_neg h4, if_neg h5, if_neg h6, if_neg h7, if_pos h8]; try rfl) rfl rfl rfl
                · skip
                  refine am_split (fun h9 => ?_) (fun h9 => ?_)
                  · skip
                    refine am_call (eF_branchOffset q _) ?_
                    exact am_ri (S := sF_thirdOf) (by unfold rF_thirdOf; simp only [if_neg h1, if_neg h2, if_neg h3, if_neg h4, if_neg h5, if_neg h6, if_neg h7, if_neg h8, if_pos h9]; try rfl) rfl rfl rfl
                  · skip
                    refine am_split (fun h10 => ?_) (fun h10 => ?_)
                    · skip
                      refine am_call (eF_branchOffset q _) ?_
                      exact am_ri (S := sF_thirdOf) (by unfold rF_thirdOf; simp only [if_neg h1, if_neg h2, if_neg h3, if_neg h4, if_neg h5, if_neg h6, if_neg h7, if_neg h8, if_neg h9, if_pos h10]; try rfl) rfl rfl rfl
                    · skip
                      refine am_split (fun h11 => ?_) (fun h11 => ?_)
                      · skip
                        refine am_call (eF_branchOffset q _) ?_
                        exact am_ri (S := sF_thirdOf) (by unfold rF_thirdOf; simp only [if_neg h1, if_neg h2, if_neg h3, if_neg h4, if_neg h5, if_neg h6, if_neg h7, if_neg h8, if_neg h9, if_neg h10, if_pos h11]; try rfl) rfl rfl rfl
                      · skip
                        refine am_split (fun h12 => ?_) (fun h12 => ?_)
                        · skip
                          exact am_ri (S := sF_thirdOf) (by unfold rF_thirdOf; simp only [if_neg h1, if_neg h2, if_neg h3, if_neg h4, if_neg h5, if_neg h6, if_neg h7, if_neg h8, if_neg h9, if_neg h10, if_neg h11, if_pos h12]; try rfl) rfl rfl rfl
                        · skip
                          refine am_split (fun h13 => ?_) (fun h13 => ?_)
                          · skip
                            exact am_ri (S := sF_thirdOf) (by unfold rF_thirdOf; simp only [if_neg h1, if_neg h2, if_neg h3, if_neg h4, if_neg h5, if_neg h6, if_neg h7, if_neg h8, if_neg h9, if_neg h10, if_neg h11, if_neg h12, if_pos h13]; try rfl) rfl rfl rfl
                          · skip
                            exact am_ri (S := sF_thirdOf) (by unfold rF_thirdOf; simp only [if_neg h1, if_neg h2, if_neg h3, if_neg h4, if_neg h5, if_neg h6, if_neg h7, if_neg h8, if_neg h9, if_neg h10, if_neg h11, if_neg h12, if_neg h13]; try rfl) rfl rfl rfl
noncomputable def rP_has (p q : Int32) : Int32 := if p < (0 : Int32) then (0 : Int32) else if q ≤ p then (0 : Int32) else if (20 : Int32) ≤ p then (0 : Int32) else (1 : Int32)
set_option maxHeartbeats 4000000 in
set_option maxRecDepth 100000 in
theorem eP_has (p q : Int32) (ab : List am_Cl) : am_Ev sP_has [.int p, .int q] ab (some (.int (rP_has p q))) ab := by
  refine am_Ev_of cwP_has rfl rfl rfl (am_wp_T gdP_has 400 ?_)
  refine am_split (fun h1 => ?_) (fun h1 => ?_)
  · skip
    exact am_ri (S := sP_has) (by unfold rP_has; simp only [if_pos h1]; try rfl) rfl rfl rfl
  · skip
    refine am_split (fun h2 => ?_) (fun h2 => ?_)
    · skip
      exact am_ri (S := sP_has) (by unfold rP_has; simp only [if_neg h1, if_pos h2]; try rfl) rfl rfl rfl
    · skip
      refine am_split (fun h3 => ?_) (fun h3 => ?_)
      · skip
        exact am_ri (S := sP_has) (by unfold rP_has; simp only [if_neg h1, if_neg h2, if_pos h3]; try rfl) rfl rfl rfl
      · skip
        exact am_ri (S := sP_has) (by unfold rP_has; simp only [if_neg h1, if_neg h2, if_neg h3]; try rfl) rfl rfl rfl
theorem zoP_has (p q : Int32) : rP_has p q = 0 ∨ rP_has p q = 1 := by
  unfold rP_has
  repeat' (first | with_reducible refine zo_ite ?_ ?_ | with_reducible exact Or.inl rfl | with_reducible exact Or.inr rfl)
noncomputable def rP_isFree (p : Int32) : Int32 := (rX_within p (0 : Int32) (26 : Int32))
set_option maxHeartbeats 4000000 in
set_option maxRecDepth 100000 in
theorem eP_isFree (p : Int32) (ab : List am_Cl) : am_Ev sP_isFree [.int p] ab (some (.int (rP_isFree p))) ab := by
  refine am_Ev_of cwP_isFree rfl rfl rfl (am_wp_T gdP_isFree 400 ?_)
  refine am_call (eX_within p (0 : Int32) (26 : Int32) _) ?_
  exact am_ri (S := sP_isFree) rfl rfl rfl (am_nz (zoX_within p (0 : Int32) (26 : Int32)))
theorem zoP_isFree (p : Int32) : rP_isFree p = 0 ∨ rP_isFree p = 1 := by
  unfold rP_isFree
  repeat' (first | with_reducible refine zo_ite ?_ ?_ | with_reducible exact zoX_within .. | with_reducible exact Or.inl rfl | with_reducible exact Or.inr rfl)
noncomputable def rP_mayBeTarget (p : Int32) : Int32 := (rX_within p (0 : Int32) (20 : Int32))
set_option maxHeartbeats 4000000 in
set_option maxRecDepth 100000 in
theorem eP_mayBeTarget (p : Int32) (ab : List am_Cl) : am_Ev sP_mayBeTarget [.int p] ab (some (.int (rP_mayBeTarget p))) ab := by
  refine am_Ev_of cwP_mayBeTarget rfl rfl rfl (am_wp_T gdP_mayBeTarget 400 ?_)
  refine am_call (eX_within p (0 : Int32) (20 : Int32) _) ?_
  exact am_ri (S := sP_mayBeTarget) rfl rfl rfl (am_nz (zoX_within p (0 : Int32) (20 : Int32)))
theorem zoP_mayBeTarget (p : Int32) : rP_mayBeTarget p = 0 ∨ rP_mayBeTarget p = 1 := by
  unfold rP_mayBeTarget
  repeat' (first | with_reducible refine zo_ite ?_ ?_ | with_reducible exact zoX_within .. | with_reducible exact Or.inl rfl | with_reducible exact Or.inr rfl)
noncomputable def rP_allows (p q r s : Int32) : Int32 := if p = (8 : Int32) then if (rP_isFree q) = (0 : Int32) then (0 : Int32) else if (rP_isFree r) = (0 : Int32) then (0 : Int32) else if (rP_mayBeTarget s) = (0 : Int32) then (0 : Int32) else (1 : Int32) else if p = (9 : Int32) then if (rP_isFree q) = (0 : Int32) then (0 : Int32) else if (rP_isFree r) = (0 : Int32) then (0 : Int32) else if (rP_mayBeTarget s) = (0 : Int32) then (0 : Int32) else (1 : Int32) else if p = (10 : Int32) then if (rP_isFree q) = (0 : Int32) then (0 : Int32) else if (rP_isFree r) = (0 : Int32) then (0 : Int32) else if (rP_mayBeTarget s) = (0 : Int32) then (0 : Int32) else (1 : Int32) else if p = (11 : Int32) then if (rP_isFree q) = (0 : Int32) then (0 : Int32) else if (rP_mayBeTarget r) = (0 : Int32) then (0 : Int32) else (1 : Int32) else if p = (12 : Int32) then if (rP_isFree q) = (0 : Int32) then (0 : Int32) else if (rP_isFree r) = (0 : Int32) then (0 : Int32) else (1 : Int32) else if p = (13 : Int32) then (rF_plainFits p q r s (26 : Int32)) else if p = (14 : Int32) then (rF_plainFits p q r s (26 : Int32)) else if p = (15 : Int32) then (rX_within q (0 : Int32) (2 : Int32)) else if p = (16 : Int32) then if (rP_isFree q) = (0 : Int32) then (0 : Int32) else if (rP_mayBeTarget r) = (0 : Int32) then (0 : Int32) else (1 : Int32) else (rF_plainFits p q r s (26 : Int32))
set_option maxHeartbeats 4000000 in
set_option maxRecDepth 100000 in
theorem eP_allows (p q r s : Int32) (ab : List am_Cl) : am_Ev sP_allows [.int p, .int q, .int r, .int s] ab (some (.int (rP_allows p q r s))) ab := by
  refine am_Ev_of cwP_allows rfl rfl rfl (am_wp_T gdP_allows 400 ?_)
  refine am_split (fun h1 => ?_) (fun h1 => ?_)
  · skip
    refine am_call (eP_isFree q _) ?_
    refine am_split (fun h2 => ?_) (fun h2 => ?_)
    · skip
      exact am_ri (S := sP_allows) (by unfold rP_allows; simp only [if_pos h1, if_pos h2]; try rfl) rfl rfl rfl
    · skip
      refine am_call (eP_isFree r _) ?_
      refine am_split (fun h3 => ?_) (fun h3 => ?_)
      · skip
        exact am_ri (S := sP_allows) (by unfold rP_allows; simp only [if_pos h1, if_neg h2, if_pos h3]; try rfl) rfl rfl rfl
      · skip
        refine am_call (eP_mayBeTarget s _) ?_
        refine am_split (fun h4 => ?_) (fun h4 => ?_)
        · skip
          exact am_ri (S := sP_allows) (by unfold rP_allows; simp only [if_pos h1, if_neg h2, if_neg h3, if_pos h4]; try rfl) rfl rfl rfl
        · skip
          exact am_ri (S := sP_allows) (by unfold rP_allows; simp only [if_pos h1, if_neg h2, if_neg h3, if_neg h4]; try rfl) rfl rfl rfl
  · skip
    refine am_split (fun h5 => ?_) (fun h5 => ?_)
    · skip
      refine am_call (eP_isFree q _) ?_
      refine am_split (fun h6 => ?_) (fun h6 => ?_)
      · skip
        exact am_ri (S := sP_allows) (by unfold rP_allows; simp only [if_neg h1, if_pos h5, if_pos h6]; try rfl) rfl rfl rfl
      · skip
        refine am_call (eP_isFree r _) ?_
        refine am_split (fun h7 => ?_) (fun h7 => ?_)
        · skip
          exact am_ri (S := sP_allows) (by unfold rP_allows; simp only [if_neg h1, if_pos h5, if_neg h6, if_pos h7]; try rfl) rfl rfl rfl
        · skip
          refine am_call (eP_mayBeTarget s _) ?_
          refine am_split (fun h8 => ?_) (fun h8 => ?_)
          · skip
            exact am_ri (S := sP_allows) (by unfold rP_allows; simp only [if_neg h1, if_pos h5, if_neg h6, if_neg h7, if_pos h8]; try rfl) rfl rfl rfl
          · skip
            exact am_ri (S := sP_allows) (by unfold rP_allows; simp only [if_neg h1, if_pos h5, if_neg h6, if_neg h7, if_neg h8]; try rfl) rfl rfl rfl
    · skip
      refine am_split (fun h9 => ?_) (fun h9 => ?_)
      · skip
        refine am_call (eP_isFree q _) ?_
        refine am_split (fun h10 => ?_) (fun h10 => ?_)
        · skip
          exact am_ri (S := sP_allows) (by unfold rP_allows; simp only [if_neg h1, if_neg h5, if_pos h9, if_pos h10]; try rfl) rfl rfl rfl
        · skip
          refine am_call (eP_isFree r _) ?_
          refine am_split (fun h11 => ?_) (fun h11 => ?_)
          · skip
            exact am_ri (S := sP_allows) (by unfold rP_allows; simp only [if_neg h1, if_neg h5, if_pos h9, if_neg h10, if_pos h11]; try rfl) rfl rfl rfl
          · skip
            refine am_call (eP_mayBeTarget s _) ?_
            refine am_split (fun h12 => ?_) (fun h12 => ?_)
            · skip
              exact am_ri (S := sP_allows) (by unfold rP_allows; simp only [if_neg h1, if_neg h5, if_pos h9, if_neg h10, if_neg h11, if_pos h12]; try rfl) rfl rfl rfl
            · skip
              exact am_ri (S := sP_allows) (by unfold rP_allows; simp only [if_neg h1, if_neg h5, if_pos h9, if_neg h10, if_neg h11, if_neg h12]; try rfl) rfl rfl rfl
      · skip
        refine am_split (fun h13 => ?_) (fun h13 => ?_)
        · skip
          refine am_call (eP_isFree q _) ?_
          refine am_split (fun h14 => ?_) (fun h14 => ?_)
          · skip
            exact am_ri (S := sP_allows) (by unfold rP_allows; simp only [if_neg h1, if_neg h5, if_neg h9, if_pos h13, if_pos h14]; try rfl) rfl rfl rfl
          · skip
            refine am_call (eP_mayBeTarget r _) ?_
            refine am_split (fun h15 => ?_) (fun h15 => ?_)
            · skip
              exact am_ri (S := sP_allows) (by unfold rP_allows; simp only [if_neg h1, if_neg h5, if_neg h9, if_pos h13, if_neg h14, if_pos h15]; try rfl) rfl rfl rfl
            · skip
              exact am_ri (S := sP_allows) (by unfold rP_allows; simp only [if_neg h1, if_neg h5, if_neg h9, if_pos h13, if_neg h14, if_neg h15]; try rfl) rfl rfl rfl
        · skip
          refine am_split (fun h16 => ?_) (fun h16 => ?_)
          · skip
            refine am_call (eP_isFree q _) ?_
            refine am_split (fun h17 => ?_) (fun h17 => ?_)
            · skip
              exact am_ri (S := sP_allows) (by unfold rP_allows; simp only [if_neg h1, if_neg h5, if_neg h9, if_neg h13, if_pos h16, if_pos h17]; try rfl) rfl rfl rfl
            · skip
              refine am_call (eP_isFree r _) ?_
              refine am_split (fun h18 => ?_) (fun h18 => ?_)
              · skip
                exact am_ri (S := sP_allows) (by unfold rP_allows; simp only [if_neg h1, if_neg h5, if_neg h9, if_neg h13, if_pos h16, if_neg h17, if_pos h18]; try rfl) rfl rfl rfl
              · skip
                exact am_ri (S := sP_allows) (by unfold rP_allows; simp only [if_neg h1, if_neg h5, if_neg h9, if_neg h13, if_pos h16, if_neg h17, if_neg h18]; try rfl) rfl rfl rfl
          · skip
            refine am_split (fun h19 => ?_) (fun h19 => ?_)
            · skip
              refine am_call (eF_plainFits p q r s (26 : Int32) _) ?_
              exact am_ri (S := sP_allows) (by unfold rP_allows; simp only [if_neg h1, if_neg h5, if_neg h9, if_neg h13, if_neg h16, if_pos h19]; try rfl) rfl rfl (am_nz (zoF_plainFits p q r s (26 : Int32)))
            · skip
              refine am_split (fun h20 => ?_) (fun h20 => ?_)
              · skip
                refine am_call (eF_plainFits p q r s (26 : Int32) _) ?_
                exact am_ri (S := sP_allows) (by unfold rP_allows; simp only [if_neg h1, if_neg h5, if_neg h9, if_neg h13, if_neg h16, if_neg h19, if_pos h20]; try rfl) rfl rfl (am_nz (zoF_plainFits p q r s (26 : Int32)))
              · skip
                refine am_split (fun h21 => ?_) (fun h21 => ?_)
                · skip
                  refine am_call (eX_within q (0 : Int32) (2 : Int32) _) ?_
                  exact am_ri (S := sP_allows) (by unfold rP_allows; simp only [if_neg h1, if_neg h5, if_neg h9, if_neg h13, if_neg h16, if_neg h19, if_neg h20, if_pos h21]; try rfl) rfl rfl (am_nz (zoX_within q (0 : Int32) (2 : Int32)))
                · skip
                  refine am_split (fun h22 => ?_) (fun h22 => ?_)
                  · skip
                    refine am_call (eP_isFree q _) ?_
                    refine am_split (fun h23 => ?_) (fun h23 => ?_)
                    · skip
                      exact am_ri (S := sP_allows) (by unfold rP_allows; simp only [if_neg h1, if_neg h5, if_neg h9, if_neg h13, if_neg h16, if_neg h19, if_neg h20, if_neg h21, if_pos h22, if_pos h23]; try rfl) rfl rfl rfl
                    · skip
                      refine am_call (eP_mayBeTarget r _) ?_
                      refine am_split (fun h24 => ?_) (fun h24 => ?_)
                      · skip
                        exact am_ri (S := sP_allows) (by unfold rP_allows; simp only [if_neg h1, if_neg h5, if_neg h9, if_neg h13, if_neg h16, if_neg h19, if_neg h20, if_neg h21, if_pos h22, if_neg h23, if_pos h24]; try rfl) rfl rfl rfl
                      · skip
                        exact am_ri (S := sP_allows) (by unfold rP_allows; simp only [if_neg h1, if_neg h5, if_neg h9, if_neg h13, if_neg h16, if_neg h19, if_neg h20, if_neg h21, if_pos h22, if_neg h23, if_neg h24]; try rfl) rfl rfl rfl
                  · skip
                    refine am_call (eF_plainFits p q r s (26 : Int32) _) ?_
                    exact am_ri (S := sP_allows) (by unfold rP_allows; simp only [if_neg h1, if_neg h5, if_neg h9, if_neg h13, if_neg h16, if_neg h19, if_neg h20, if_neg h21, if_neg h22]; try rfl) rfl rfl (am_nz (zoF_plainFits p q r s (26 : Int32)))
theorem zoP_allows (p q r s : Int32) : rP_allows p q r s = 0 ∨ rP_allows p q r s = 1 := by
  unfold rP_allows
  repeat' (first | with_reducible refine zo_ite ?_ ?_ | with_reducible exact zoF_plainFits .. | with_reducible exact zoX_within .. | with_reducible exact Or.inl rfl | with_reducible exact Or.inr rfl)
noncomputable def rL_endsBundle (p q : Int32) : Int32 := if p = (15 : Int32) then (1 : Int32) else if p = (11 : Int32) then if q = (0 : Int32) then (0 : Int32) else (1 : Int32) else if p = (12 : Int32) then if q = (0 : Int32) then (0 : Int32) else (1 : Int32) else (0 : Int32)
set_option maxHeartbeats 4000000 in
set_option maxRecDepth 100000 in
theorem eL_endsBundle (p q : Int32) (ab : List am_Cl) : am_Ev sL_endsBundle [.int p, .int q] ab (some (.int (rL_endsBundle p q))) ab := by
  refine am_Ev_of cwL_endsBundle rfl rfl rfl (am_wp_T gdL_endsBundle 400 ?_)
  refine am_split (fun h1 => ?_) (fun h1 => ?_)
  · skip
    exact am_ri (S := sL_endsBundle) (by unfold rL_endsBundle; simp only [if_pos h1]; try rfl) rfl rfl rfl
  · skip
    refine am_split (fun h2 => ?_) (fun h2 => ?_)
    · skip
      refine am_split (fun h3 => ?_) (fun h3 => ?_)
      · skip
        exact am_ri (S := sL_endsBundle) (by unfold rL_endsBundle; simp only [if_neg h1, if_pos h2, if_pos h3]; try rfl) rfl rfl rfl
      · skip
        exact am_ri (S := sL_endsBundle) (by unfold rL_endsBundle; simp only [if_neg h1, if_pos h2, if_neg h3]; try rfl) rfl rfl rfl
    · skip
      refine am_split (fun h4 => ?_) (fun h4 => ?_)
      · skip
        refine am_split (fun h5 => ?_) (fun h5 => ?_)
        · skip
          exact am_ri (S := sL_endsBundle) (by unfold rL_endsBundle; simp only [if_neg h1, if_neg h2, if_pos h4, if_pos h5]; try rfl) rfl rfl rfl
        · skip
          exact am_ri (S := sL_endsBundle) (by unfold rL_endsBundle; simp only [if_neg h1, if_neg h2, if_pos h4, if_neg h5]; try rfl) rfl rfl rfl
      · skip
        exact am_ri (S := sL_endsBundle) (by unfold rL_endsBundle; simp only [if_neg h1, if_neg h2, if_neg h4]; try rfl) rfl rfl rfl
theorem zoL_endsBundle (p q : Int32) : rL_endsBundle p q = 0 ∨ rL_endsBundle p q = 1 := by
  unfold rL_endsBundle
  repeat' (first | with_reducible refine zo_ite ?_ ?_ | with_reducible exact Or.inl rfl | with_reducible exact Or.inr rfl)
noncomputable def rL_nextWith (p q : Int32) : Int32 := if ((q - (q - q / (16 : Int32) * (16 : Int32))) + p) < q then (((q - (q - q / (16 : Int32) * (16 : Int32))) + p) + (16 : Int32)) else ((q - (q - q / (16 : Int32) * (16 : Int32))) + p)
set_option maxHeartbeats 4000000 in
set_option maxRecDepth 100000 in
theorem eL_nextWith (p q : Int32) (ab : List am_Cl) : am_Ev sL_nextWith [.int p, .int q] ab (some (.int (rL_nextWith p q))) ab := by
  refine am_Ev_of cwL_nextWith rfl rfl rfl (am_wp_T gdL_nextWith 400 ?_)
  refine am_split (fun h1 => ?_) (fun h1 => ?_)
  · skip
    exact am_ri (S := sL_nextWith) (by unfold rL_nextWith; simp only [if_pos h1]; try rfl) rfl rfl rfl
  · skip
    exact am_ri (S := sL_nextWith) (by unfold rL_nextWith; simp only [if_neg h1]; try rfl) rfl rfl rfl
noncomputable def rL_bytesOf (p : Int32) : Int32 := if p = (6 : Int32) then (16 : Int32) else if p = (7 : Int32) then (16 : Int32) else if p = (8 : Int32) then (4 : Int32) else if p = (9 : Int32) then (4 : Int32) else if p = (10 : Int32) then (4 : Int32) else if p = (11 : Int32) then (4 : Int32) else if p = (12 : Int32) then (8 : Int32) else if p = (13 : Int32) then (2 : Int32) else if p = (14 : Int32) then (2 : Int32) else (4 : Int32)
set_option maxHeartbeats 4000000 in
set_option maxRecDepth 100000 in
theorem eL_bytesOf (p : Int32) (ab : List am_Cl) : am_Ev sL_bytesOf [.int p] ab (some (.int (rL_bytesOf p))) ab := by
  refine am_Ev_of cwL_bytesOf rfl rfl rfl (am_wp_T gdL_bytesOf 400 ?_)
  refine am_split (fun h1 => ?_) (fun h1 => ?_)
  · skip
    exact am_ri (S := sL_bytesOf) (by unfold rL_bytesOf; simp only [if_pos h1]; try rfl) rfl rfl rfl
  · skip
    refine am_split (fun h2 => ?_) (fun h2 => ?_)
    · skip
      exact am_ri (S := sL_bytesOf) (by unfold rL_bytesOf; simp only [if_neg h1, if_pos h2]; try rfl) rfl rfl rfl
    · skip
      refine am_split (fun h3 => ?_) (fun h3 => ?_)
      · skip
        exact am_ri (S := sL_bytesOf) (by unfold rL_bytesOf; simp only [if_neg h1, if_neg h2, if_pos h3]; try rfl) rfl rfl rfl
      · skip
        refine am_split (fun h4 => ?_) (fun h4 => ?_)
        · skip
          exact am_ri (S := sL_bytesOf) (by unfold rL_bytesOf; simp only [if_neg h1, if_neg h2, if_neg h3, if_pos h4]; try rfl) rfl rfl rfl
        · skip
          refine am_split (fun h5 => ?_) (fun h5 => ?_)
          · skip
            exact am_ri (S := sL_bytesOf) (by unfold rL_bytesOf; simp only [if_neg h1, if_neg h2, if_neg h3, if_neg h4, if_pos h5]; try rfl) rfl rfl rfl
          · skip
            refine am_split (fun h6 => ?_) (fun h6 => ?_)
            · skip
              exact am_ri (S := sL_bytesOf) (by unfold rL_bytesOf; simp only [if_neg h1, if_neg h2, if_neg h3, if_neg h4, if_neg h5, if_pos h6]; try rfl) rfl rfl rfl
            · skip
              refine am_split (fun h7 => ?_) (fun h7 => ?_)
              · skip
                exact am_ri (S := sL_bytesOf) (by unfold rL_bytesOf; simp only [if_neg h1, if_neg h2, if_neg h3, if_neg h4, if_neg h5, if_neg h6, if_pos h7]; try rfl) rfl rfl rfl
              · skip
                refine am_split (fun h8 => ?_) (fun h8 => ?_)
                · skip
                  exact am_ri (S := sL_bytesOf) (by unfold rL_bytesOf; simp only [if_neg h1, if_neg h2, if_neg h3, if_neg h4, if_neg h5, if_neg h6, if_neg h7, if_pos h8]; try rfl) rfl rfl rfl
                · skip
                  refine am_split (fun h9 => ?_) (fun h9 => ?_)
                  · skip
                    exact am_ri (S := sL_bytesOf) (by unfold rL_bytesOf; simp only [if_neg h1, if_neg h2, if_neg h3, if_neg h4, if_neg h5, if_neg h6, if_neg h7, if_neg h8, if_pos h9]; try rfl) rfl rfl rfl
                  · skip
                    exact am_ri (S := sL_bytesOf) (by unfold rL_bytesOf; simp only [if_neg h1, if_neg h2, if_neg h3, if_neg h4, if_neg h5, if_neg h6, if_neg h7, if_neg h8, if_neg h9]; try rfl) rfl rfl rfl
noncomputable def rK_isCodeMask (p : Int32) : Int32 := if (rF_kindOf p) = (2 : Int32) then if (rF_firstOf (2 : Int32) p) = (31 : Int32) then if (rF_thirdOf (2 : Int32) p) = (27 : Int32) then (1 : Int32) else (0 : Int32) else (0 : Int32) else (0 : Int32)
set_option maxHeartbeats 4000000 in
set_option maxRecDepth 100000 in
theorem eK_isCodeMask (p : Int32) (ab : List am_Cl) : am_Ev sK_isCodeMask [.int p] ab (some (.int (rK_isCodeMask p))) ab := by
  refine am_Ev_of cwK_isCodeMask rfl rfl rfl (am_wp_T gdK_isCodeMask 400 ?_)
  refine am_call (eF_kindOf p _) ?_
  refine am_split (fun h1 => ?_) (fun h1 => ?_)
  · skip
    refine am_call (eF_firstOf (2 : Int32) p _) ?_
    refine am_split (fun h2 => ?_) (fun h2 => ?_)
    · skip
      refine am_call (eF_thirdOf (2 : Int32) p _) ?_
      refine am_split (fun h3 => ?_) (fun h3 => ?_)
      · skip
        exact am_ri (S := sK_isCodeMask) (by unfold rK_isCodeMask; simp only [if_pos h1, if_pos h2, if_pos h3]; try rfl) rfl rfl rfl
      · skip
        exact am_ri (S := sK_isCodeMask) (by unfold rK_isCodeMask; simp only [if_pos h1, if_pos h2, if_neg h3]; try rfl) rfl rfl rfl
    · skip
      exact am_ri (S := sK_isCodeMask) (by unfold rK_isCodeMask; simp only [if_pos h1, if_neg h2]; try rfl) rfl rfl rfl
  · skip
    exact am_ri (S := sK_isCodeMask) (by unfold rK_isCodeMask; simp only [if_neg h1]; try rfl) rfl rfl rfl
theorem zoK_isCodeMask (p : Int32) : rK_isCodeMask p = 0 ∨ rK_isCodeMask p = 1 := by
  unfold rK_isCodeMask
  repeat' (first | with_reducible refine zo_ite ?_ ?_ | with_reducible exact Or.inl rfl | with_reducible exact Or.inr rfl)
end
section
noncomputable def rZ_outside (p q r : Int32) : Int32 := if p < q then (1 : Int32) else if p ≤ r then (0 : Int32) else (1 : Int32)
set_option maxHeartbeats 4000000 in
set_option maxRecDepth 100000 in
theorem eZ_outside (p q r : Int32) (ab : List am_Cl) : am_Ev sZ_outside [.int p, .int q, .int r] ab (some (.int (rZ_outside p q r))) ab := by
  refine am_Ev_of cwZ_outside rfl rfl rfl (am_wp_T gdZ_outside 400 ?_)
  refine am_split (fun h1 => ?_) (fun h1 => ?_)
  · skip
    exact am_ri (S := sZ_outside) (by unfold rZ_outside; simp only [if_pos h1]; try rfl) rfl rfl rfl
  · skip
    refine am_split (fun h2 => ?_) (fun h2 => ?_)
    · skip
      exact am_ri (S := sZ_outside) (by unfold rZ_outside; simp only [if_neg h1, if_pos h2]; try rfl) rfl rfl rfl
    · skip
      exact am_ri (S := sZ_outside) (by unfold rZ_outside; simp only [if_neg h1, if_neg h2]; try rfl) rfl rfl rfl
theorem zoZ_outside (p q r : Int32) : rZ_outside p q r = 0 ∨ rZ_outside p q r = 1 := by
  unfold rZ_outside
  repeat' (first | with_reducible refine zo_ite ?_ ?_ | with_reducible exact Or.inl rfl | with_reducible exact Or.inr rfl)
noncomputable def rZ_notRegister (p : Int32) : Int32 := if p < (0 : Int32) then (1 : Int32) else if p ≤ (31 : Int32) then (0 : Int32) else (1 : Int32)
set_option maxHeartbeats 4000000 in
set_option maxRecDepth 100000 in
theorem eZ_notRegister (p : Int32) (ab : List am_Cl) : am_Ev sZ_notRegister [.int p] ab (some (.int (rZ_notRegister p))) ab := by
  refine am_Ev_of cwZ_notRegister rfl rfl rfl (am_wp_T gdZ_notRegister 400 ?_)
  refine am_split (fun h1 => ?_) (fun h1 => ?_)
  · skip
    exact am_ri (S := sZ_notRegister) (by unfold rZ_notRegister; simp only [if_pos h1]; try rfl) rfl rfl rfl
  · skip
    refine am_split (fun h2 => ?_) (fun h2 => ?_)
    · skip
      exact am_ri (S := sZ_notRegister) (by unfold rZ_notRegister; simp only [if_neg h1, if_pos h2]; try rfl) rfl rfl rfl
    · skip
      exact am_ri (S := sZ_notRegister) (by unfold rZ_notRegister; simp only [if_neg h1, if_neg h2]; try rfl) rfl rfl rfl
theorem zoZ_notRegister (p : Int32) : rZ_notRegister p = 0 ∨ rZ_notRegister p = 1 := by
  unfold rZ_notRegister
  repeat' (first | with_reducible refine zo_ite ?_ ?_ | with_reducible exact Or.inl rfl | with_reducible exact Or.inr rfl)
noncomputable def rZ_typeR (p q r s t u : Int32) : Int32 := ((((((p <<< ((25 : Int32) &&& 31)) ||| (q <<< ((20 : Int32) &&& 31))) ||| (r <<< ((15 : Int32) &&& 31))) ||| (s <<< ((12 : Int32) &&& 31))) ||| (t <<< ((7 : Int32) &&& 31))) ||| u)
set_option maxHeartbeats 4000000 in
set_option maxRecDepth 100000 in
theorem eZ_typeR (p q r s t u : Int32) (ab : List am_Cl) : am_Ev sZ_typeR [.int p, .int q, .int r, .int s, .int t, .int u] ab (some (.int (rZ_typeR p q r s t u))) ab := by
  refine am_Ev_of cwZ_typeR rfl rfl rfl (am_wp_T gdZ_typeR 400 ?_)
  exact am_ri (S := sZ_typeR) rfl rfl rfl rfl
noncomputable def rZ_typeI (p q r s t : Int32) : Int32 := (((((p <<< ((20 : Int32) &&& 31)) ||| (q <<< ((15 : Int32) &&& 31))) ||| (r <<< ((12 : Int32) &&& 31))) ||| (s <<< ((7 : Int32) &&& 31))) ||| t)
set_option maxHeartbeats 4000000 in
set_option maxRecDepth 100000 in
theorem eZ_typeI (p q r s t : Int32) (ab : List am_Cl) : am_Ev sZ_typeI [.int p, .int q, .int r, .int s, .int t] ab (some (.int (rZ_typeI p q r s t))) ab := by
  refine am_Ev_of cwZ_typeI rfl rfl rfl (am_wp_T gdZ_typeI 400 ?_)
  exact am_ri (S := sZ_typeI) rfl rfl rfl rfl
noncomputable def rZ_branch (p q r s : Int32) : Int32 := (rZ_typeR ((((s >>> ((12 : Int32) &&& 31)) &&& (1 : Int32)) <<< ((6 : Int32) &&& 31)) ||| ((s >>> ((5 : Int32) &&& 31)) &&& (63 : Int32))) r q p ((s &&& (30 : Int32)) ||| ((s >>> ((11 : Int32) &&& 31)) &&& (1 : Int32))) (99 : Int32))
set_option maxHeartbeats 4000000 in
set_option maxRecDepth 100000 in
theorem eZ_branch (p q r s : Int32) (ab : List am_Cl) : am_Ev sZ_branch [.int p, .int q, .int r, .int s] ab (some (.int (rZ_branch p q r s))) ab := by
  refine am_Ev_of cwZ_branch rfl rfl rfl (am_wp_T gdZ_branch 400 ?_)
  refine am_call (eZ_typeR ((((s >>> ((12 : Int32) &&& 31)) &&& (1 : Int32)) <<< ((6 : Int32) &&& 31)) ||| ((s >>> ((5 : Int32) &&& 31)) &&& (63 : Int32))) r q p ((s &&& (30 : Int32)) ||| ((s >>> ((11 : Int32) &&& 31)) &&& (1 : Int32))) (99 : Int32) _) ?_
  exact am_ri (S := sZ_branch) rfl rfl rfl rfl
noncomputable def rZ_jump (p q : Int32) : Int32 := ((((((((q >>> ((20 : Int32) &&& 31)) &&& (1 : Int32)) <<< ((31 : Int32) &&& 31)) ||| (((q >>> ((1 : Int32) &&& 31)) &&& (1023 : Int32)) <<< ((21 : Int32) &&& 31))) ||| (((q >>> ((11 : Int32) &&& 31)) &&& (1 : Int32)) <<< ((20 : Int32) &&& 31))) ||| (((q >>> ((12 : Int32) &&& 31)) &&& (255 : Int32)) <<< ((12 : Int32) &&& 31))) ||| (p <<< ((7 : Int32) &&& 31))) ||| (111 : Int32))
set_option maxHeartbeats 4000000 in
set_option maxRecDepth 100000 in
theorem eZ_jump (p q : Int32) (ab : List am_Cl) : am_Ev sZ_jump [.int p, .int q] ab (some (.int (rZ_jump p q))) ab := by
  refine am_Ev_of cwZ_jump rfl rfl rfl (am_wp_T gdZ_jump 400 ?_)
  exact am_ri (S := sZ_jump) rfl rfl rfl rfl
noncomputable def rZ_fits (p q r s : Int32) : Int32 := if (rZ_notRegister q) = (0 : Int32) then if p = (0 : Int32) then if (rZ_notRegister r) = (0 : Int32) then if (rZ_notRegister s) = (0 : Int32) then (1 : Int32) else (0 : Int32) else (0 : Int32) else if p = (1 : Int32) then if (rZ_notRegister r) = (0 : Int32) then if (rZ_notRegister s) = (0 : Int32) then (1 : Int32) else (0 : Int32) else (0 : Int32) else if p = (2 : Int32) then if (rZ_notRegister r) = (0 : Int32) then if (rZ_notRegister s) = (0 : Int32) then (1 : Int32) else (0 : Int32) else (0 : Int32) else if p = (3 : Int32) then if (rZ_notRegister r) = (0 : Int32) then if (rZ_notRegister s) = (0 : Int32) then (1 : Int32) else (0 : Int32) else (0 : Int32) else if p = (4 : Int32) then if (rZ_notRegister r) = (0 : Int32) then if (rZ_outside s (-2048 : Int32) (2047 : Int32)) = (0 : Int32) then (1 : Int32) else (0 : Int32) else (0 : Int32) else if p = (5 : Int32) then if (rZ_outside r (0 : Int32) (1048575 : Int32)) = (0 : Int32) then (1 : Int32) else (0 : Int32) else if p = (6 : Int32) then if (rZ_notRegister r) = (0 : Int32) then if (rZ_outside s (-2048 : Int32) (2047 : Int32)) = (0 : Int32) then (1 : Int32) else (0 : Int32) else (0 : Int32) else if p = (7 : Int32) then if (rZ_notRegister r) = (0 : Int32) then if (rZ_outside s (-2048 : Int32) (2047 : Int32)) = (0 : Int32) then (1 : Int32) else (0 : Int32) else (0 : Int32) else if p = (8 : Int32) then if (rZ_notRegister r) = (0 : Int32) then if (rZ_outside s (-4096 : Int32) (4094 : Int32)) = (0 : Int32) then if (s - s / (2 : Int32) * (2 : Int32)) = (0 : Int32) then (1 : Int32) else (0 : Int32) else (0 : Int32) else (0 : Int32) else if p = (9 : Int32) then if (rZ_notRegister r) = (0 : Int32) then if (rZ_outside s (-4096 : Int32) (4094 : Int32)) = (0 : Int32) then if (s - s / (2 : Int32) * (2 : Int32)) = (0 : Int32) then (1 : Int32) else (0 : Int32) else (0 : Int32) else (0 : Int32) else if p = (10 : Int32) then if (rZ_notRegister r) = (0 : Int32) then if (rZ_outside s (-4096 : Int32) (4094 : Int32)) = (0 : Int32) then if (s - s / (2 : Int32) * (2 : Int32)) = (0 : Int32) then (1 : Int32) else (0 : Int32) else (0 : Int32) else (0 : Int32) else if p = (11 : Int32) then if (rZ_outside r (-1048576 : Int32) (1048574 : Int32)) = (0 : Int32) then if (r - r / (2 : Int32) * (2 : Int32)) = (0 : Int32) then (1 : Int32) else (0 : Int32) else (0 : Int32) else if p = (12 : Int32) then if (rZ_notRegister r) = (0 : Int32) then if (rZ_outside s (-2048 : Int32) (2047 : Int32)) = (0 : Int32) then (1 : Int32) else (0 : Int32) else (0 : Int32) else if p = (13 : Int32) then if q = (0 : Int32) then if r = (0 : Int32) then (1 : Int32) else (0 : Int32) else if r = (0 : Int32) then (0 : Int32) else if (rZ_outside r (-32 : Int32) (31 : Int32)) = (0 : Int32) then (1 : Int32) else (0 : Int32) else if p = (14 : Int32) then if q = (0 : Int32) then (0 : Int32) else if r = (0 : Int32) then (0 : Int32) else if (rZ_notRegister r) = (0 : Int32) then (1 : Int32) else (0 : Int32) else (0 : Int32) else (0 : Int32)
set_option maxHeartbeats 4000000 in
set_option maxRecDepth 100000 in
theorem eZ_fits (p q r s : Int32) (ab : List am_Cl) : am_Ev sZ_fits [.int p, .int q, .int r, .int s] ab (some (.int (rZ_fits p q r s))) ab := by
  refine am_Ev_of cwZ_fits rfl rfl rfl (am_wp_T gdZ_fits 400 ?_)
  refine am_call (eZ_notRegister q _) ?_
  refine am_split (fun h1 => ?_) (fun h1 => ?_)
  · skip
    refine am_split (fun h2 => ?_) (fun h2 => ?_)
    · skip
      refine am_call (eZ_notRegister r _) ?_
      refine am_split (fun h3 => ?_) (fun h3 => ?_)
      · skip
        refine am_call (eZ_notRegister s _) ?_
        refine am_split (fun h4 => ?_) (fun h4 => ?_)
        · skip
          exact am_ri (S := sZ_fits) (by unfold rZ_fits; simp only [if_pos h1, if_pos h2, if_pos h3, if_pos h4]; try rfl) rfl rfl rfl
        · skip
          exact am_ri (S := sZ_fits) (by unfold rZ_fits; simp only [if_pos h1, if_pos h2, if_pos h3, if_neg h4]; try rfl) rfl rfl rfl
      · skip
        exact am_ri (S := sZ_fits) (by unfold rZ_fits; simp only [if_pos h1, if_pos h2, if_neg h3]; try rfl) rfl rfl rfl
    · skip
      refine am_split (fun h5 => ?_) (fun h5 => ?_)
      · skip
        refine am_call (eZ_notRegister r _) ?_
        refine am_split (fun h6 => ?_) (fun h6 => ?_)
        · skip
          refine am_call (eZ_notRegister s _) ?_
          refine am_split (fun h7 => ?_) (fun h7 => ?_)
          · skip
            exact am_ri (S := sZ_fits) (by unfold rZ_fits; simp only [if_pos h1, if_neg h2, if_pos h5, if_pos h6, if_pos h7]; try rfl) rfl rfl rfl
          · skip
            exact am_ri (S := sZ_fits) (by unfold rZ_fits; simp only [if_pos h1, if_neg h2, if_pos h5, if_pos h6, if_neg h7]; try rfl) rfl rfl rfl
        · skip
          exact am_ri (S := sZ_fits) (by unfold rZ_fits; simp only [if_pos h1, if_neg h2, if_pos h5, if_neg h6]; try rfl) rfl rfl rfl
      · skip
        refine am_split (fun h8 => ?_) (fun h8 => ?_)
        · skip
          refine am_call (eZ_notRegister r _) ?_
          refine am_split (fun h9 => ?_) (fun h9 => ?_)
          · skip
            refine am_call (eZ_notRegister s _) ?_
            refine am_split (fun h10 => ?_) (fun h10 => ?_)
            · skip
              exact am_ri (S := sZ_fits) (by unfold rZ_fits; simp only [if_pos h1, if_neg h2, if_neg h5, if_pos h8, if_pos h9, if_pos h10]; try rfl) rfl rfl rfl
            · skip
              exact am_ri (S := sZ_fits) (by unfold rZ_fits; simp only [if_pos h1, if_neg h2, if_neg h5, if_pos h8, if_pos h9, if_neg h10]; try rfl) rfl rfl rfl
          · skip
            exact am_ri (S := sZ_fits) (by unfold rZ_fits; simp only [if_pos h1, if_neg h2, if_neg h5, if_pos h8, if_neg h9]; try rfl) rfl rfl rfl
        · skip
          refine am_split (fun h11 => ?_) (fun h11 => ?_)
          · skip
            refine am_call (eZ_notRegister r _) ?_
            refine am_split (fun h12 => ?_) (fun h12 => ?_)
            · skip
              refine am_call (eZ_notRegister s _) ?_
              refine am_split (fun h13 => ?_) (fun h13 => ?_)
              · skip
                exact am_ri (S := sZ_fits) (by unfold rZ_fits; simp only [if_pos h1, if_neg h2, if_neg h5, if_neg h8, if_pos h11, if_pos h12, if_pos h13]; try rfl) rfl rfl rfl
              · skip
                exact am_ri (S := sZ_fits) (by unfold rZ_fits; simp only [if_pos h1, if_neg h2, if_neg h5, if_neg h8, if_pos h11, if_pos h12, if_neg h13]; try rfl) rfl rfl rfl
            · skip
              exact am_ri (S := sZ_fits) (by unfold rZ_fits; simp only [if_pos h1, if_neg h2, if_neg h5, if_neg h8, if_pos h11, if_neg h12]; try rfl) rfl rfl rfl
          · skip
            refine am_split (fun h14 => ?_) (fun h14 => ?_)
            · skip
              refine am_call (eZ_notRegister r _) ?_
              refine am_split (fun h15 => ?_) (fun h15 => ?_)
              · skip
                refine am_call (eZ_outside s (-2048 : Int32) (2047 : Int32) _) ?_
                refine am_split (fun h16 => ?_) (fun h16 => ?_)
                · skip
                  exact am_ri (S := sZ_fits) (by unfold rZ_fits; simp only [if_pos h1, if_neg h2, if_neg h5, if_neg h8, if_neg h11, if_pos h14, if_pos h15, if_pos h16]; try rfl) rfl rfl rfl
                · skip
                  exact am_ri (S := sZ_fits) (by unfold rZ_fits; simp only [if_pos h1, if_neg h2, if_neg h5, if_neg h8, if_neg h11, if_pos h14, if_pos h15, if_neg h16]; try rfl) rfl rfl rfl
              · skip
                exact am_ri (S := sZ_fits) (by unfold rZ_fits; simp only [if_pos h1, if_neg h2, if_neg h5, if_neg h8, if_neg h11, if_pos h14, if_neg h15]; try rfl) rfl rfl rfl
            · skip
              refine am_split (fun h17 => ?_) (fun h17 => ?_)
              · skip
                refine am_call (eZ_outside r (0 : Int32) (1048575 : Int32) _) ?_
                refine am_split (fun h18 => ?_) (fun h18 => ?_)
                · skip
                  exact am_ri (S := sZ_fits) (by unfold rZ_fits; simp only [if_pos h1, if_neg h2, if_neg h5, if_neg h8, if_neg h11, if_neg h14, if_pos h17, if_pos h18]; try rfl) rfl rfl rfl
                · skip
                  exact am_ri (S := sZ_fits) (by unfold rZ_fits; simp only [if_pos h1, if_neg h2, if_neg h5, if_neg h8, if_neg h11, if_neg h14, if_pos h17, if_neg h18]; try rfl) rfl rfl rfl
              · skip
                refine am_split (fun h19 => ?_) (fun h19 => ?_)
                · skip
                  refine am_call (eZ_notRegister r _) ?_
                  refine am_split (fun h20 => ?_) (fun h20 => ?_)
                  · skip
                    refine am_call (eZ_outside s (-2048 : Int32) (2047 : Int32) _) ?_
                    refine am_split (fun h21 => ?_) (fun h21 => ?_)
                    · skip
                      exact am_ri (S := sZ_fits) (by unfold rZ_fits; simp only [if_pos h1, if_neg h2, if_neg h5, if_neg h8, if_neg h11, if_neg h14, if_neg h17, if_pos h19, if_pos h20, if_pos h21]; try rfl) rfl rfl rfl
                    · skip
                      exact am_ri (S := sZ_fits) (by unfold rZ_fits; simp only [if_pos h1, if_neg h2, if_neg h5, if_neg h8, if_neg h11, if_neg h14, if_neg h17, if_pos h19, if_pos h20, if_neg h21]; try rfl) rfl rfl rfl
                  · skip
                    exact am_ri (S := sZ_fits) (by unfold rZ_fits; simp only [if_pos h1, if_neg h2, if_neg h5, if_neg h8, if_neg h11, if_neg h14, if_neg h17, if_pos h19, if_neg h20]; try rfl) rfl rfl rfl
                · skip
                  refine am_split (fun h22 => ?_) (fun h22 => ?_)
                  · skip
                    refine am_call (eZ_notRegister r _) ?_
                    refine am_split (fun h23 => ?_) (fun h23 => ?_)
                    · skip
                      refine am_call (eZ_outside s (-2048 : Int32) (2047 : Int32) _) ?_
                      refine am_split (fun h24 => ?_) (fun h24 => ?_)
                      · skip
                        exact am_ri (S := sZ_fits) (by unfold rZ_fits; simp only [if_pos h1, if_neg h2, if_neg h5, if_neg h8, if_neg h11, if_neg h14, if_neg h17, if_neg h19, if_pos h22, if_pos h23, if_pos h24]; try rfl) rfl rfl rfl
                      · skip
                        exact am_ri (S := sZ_fits) (by unfold rZ_fits; simp only [if_pos h1, if_neg h2, if_neg h5, if_neg h8, if_neg h11, if_neg h14, if_neg h17, if_neg h19, if_pos h22, if_pos h23, if_neg h24]; try rfl) rfl rfl rfl
                    · skip
                      exact am_ri (S := sZ_fits) (by unfold rZ_fits; simp only [if_pos h1, if_neg h2, if_neg h5, if_neg h8, if_neg h11, if_neg h14, if_neg h17, if_neg h19, if_pos h22, if_neg h23]; try rfl) rfl rfl rfl
                  · skip
                    refine am_split (fun h25 => ?_) (fun h25 => ?_)
                    · skip
                      refine am_call (eZ_notRegister r _) ?_
                      refine am_split (fun h26 => ?_) (fun h26 => ?_)
                      · skip
                        refine am_call (eZ_outside s (-4096 : Int32) (4094 : Int32) _) ?_
                        refine am_split (fun h27 => ?_) (fun h27 => ?_)
                        · skip
                          refine am_split (fun h28 => ?_) (fun h28 => ?_)
                          · skip
                            exact am_ri (S := sZ_fits) (by unfold rZ_fits; simp only [if_pos h1, if_neg h2, if_neg h5, if_neg h8, if_neg h11, if_neg h14, if_neg h17, if_neg h19, if_neg h22, if_pos h25, if_pos h26, if_pos h27, if_pos h28]; try rfl) rfl rfl rfl
                          · skip
                            exact am_ri (S := sZ_fits) (by unfold rZ_fits; simp only [if_pos h1, if_neg h2, if_neg h5, if_neg h8, if_neg h11, if_neg h14, if_neg h17, if_neg h19, if_neg h22, if_pos h25, if_pos h26, if_pos h27, if_neg h28]; try rfl) rfl rfl rfl
                        · skip
                          exact am_ri (S := sZ_fits) (by unfold rZ_fits; simp only [if_pos h1, if_neg h2, if_neg h5, if_neg h8, if_neg h11, if_neg h14, if_neg h17, if_neg h19, if_neg h22, if_pos h25, if_pos h26, if_neg h27]; try rfl) rfl rfl rfl
                      · skip
                        exact am_ri (S := sZ_fits) (by unfold rZ_fits; simp only [if_pos h1, if_neg h2, if_neg h5, if_neg h8, if_neg h11, if_neg h14, if_neg h17, if_neg h19, if_neg h22, if_pos h25, if_neg h26]; try rfl) rfl rfl rfl
                    · skip
                      refine am_split (fun h29 => ?_) (fun h29 => ?_)
                      · skip
                        refine am_call (eZ_notRegister r _) ?_
                        refine am_split (fun h30 => ?_) (fun h30 => ?_)
                        · skip
                          refine am_call (eZ_outside s (-4096 : Int32) (4094 : Int32) _) ?_
                          refine am_split (fun h31 => ?_) (fun h31 => ?_)
                          · skip
                            refine am_split (fun h32 => ?_) (fun h32 => ?_)
                            · skip
                              exact am_ri (S := sZ_fits) (by unfold rZ_fits; simp only [if_pos h1, if_neg h2, if_neg h5, if_neg h8, if_neg h11, if_neg h14, if_neg h17, if_neg h19, if_neg h22, if_neg h25, if_pos h29, if_pos h30, if_pos h31, if_pos h32]; try rfl) rfl rfl rfl
                            · skip
                              exact am_ri (S := sZ_fits) (by unfold rZ_fits; simp only [if_pos h1, if_neg h2, if_neg h5, if_neg h8, if_neg h11, if_neg h14, if_neg h17, if_neg h19, if_neg h22, if_neg h25, if_pos h29, if_pos h30, if_pos h31, if_neg h32]; try rfl) rfl rfl rfl
                          · skip
                            exact am_ri (S := sZ_fits) (by unfold rZ_fits; simp only [if_pos h1, if_neg h2, if_neg h5, if_neg h8, if_neg h11, if_neg h14, if_neg h17, if_neg h19, if_neg h22, if_neg h25, if_pos h29, if_pos h30, if_neg h31]; try rfl) rfl rfl rfl
                        · skip
                          exact am_ri (S := sZ_fits) (by unfold rZ_fits; simp only [if_pos h1, if_neg h2, if_neg h5, if_neg h8, if_neg h11, if_neg h14, if_neg h17, if_neg h19, if_neg h22, if_neg h25, if_pos h29, if_neg h30]; try rfl) rfl rfl rfl
                      · skip
                        refine am_split (fun h33 => ?_) (fun h33 => ?_)
                        · skip
                          refine am_call (eZ_notRegister r _) ?_
                          refine am_split (fun h34 => ?_) (fun h34 => ?_)
                          · skip
                            refine am_call (eZ_outside s (-4096 : Int32) (4094 : Int32) _) ?_
                            refine am_split (fun h35 => ?_) (fun h35 => ?_)
                            · skip
                              refine am_split (fun h36 => ?_) (fun h36 => ?_)
                              · skip
                                exact am_ri (S := sZ_fits) (by unfold rZ_fits; simp only [if_pos h1, if_neg h2, if_neg h5, if_neg h8, if_neg h11, if_neg h14, if_neg h17, if_neg h19, if_neg h22, if_neg h25, if_neg h29, if_pos h33, if_pos h34, if_pos h35, if_pos h36]; try rfl) rfl rfl rfl
                              · skip
                                exact am_ri (S := sZ_fits) (by unfold rZ_fits; simp only [if_pos h1, if_neg h2, if_neg h5, if_neg h8, if_neg h11, if_neg h14, if_neg h17, if_neg h19, if_neg h22, if_neg h25, if_neg h29, if_pos h33, if_pos h34, if_pos h35, if_neg h36]; try rfl) rfl rfl rfl
                            · skip
                              exact am_ri (S := sZ_fits) (by unfold rZ_fits; simp only [if_pos h1, if_neg h2, if_neg h5, if_neg h8, if_neg h11, if_neg h14, if_neg h17, if_neg h19, if_neg h22, if_neg h25, if_neg h29, if_pos h33, if_pos h34, if_neg h35]; try rfl) rfl rfl rfl
                          · skip
                            exact am_ri (S := sZ_fits) (by unfold rZ_fits; simp only [if_pos h1, if_neg h2, if_neg h5, if_neg h8, if_neg h11, if_neg h14, if_neg h17, if_neg h19, if_neg h22, if_neg h25, if_neg h29, if_pos h33, if_neg h34]; try rfl) rfl rfl rfl
                        · skip
                          refine am_split (fun h37 => ?_) (fun h37 => ?_)
                          · skip
                            refine am_call (eZ_outside r (-1048576 : Int32) (1048574 : Int32) _) ?_
                            refine am_split (fun h38 => ?_) (fun h38 => ?_)
                            · skip
                              refine am_split (fun h39 => ?_) (fun h39 => ?_)
                              · skip
                                exact am_ri (S := sZ_fits) (by unfold rZ_fits; simp only [if_pos h1, if_neg h2, if_neg h5, if_neg h8, if_neg h11, if_neg h14, if_neg h17, if_neg h19, if_neg h22, if_neg h25, if_neg h29, if_neg h33, if_pos h37, if_pos h38, if_pos h39]; try rfl) rfl rfl rfl
                              · skip
                                exact am_ri (S := sZ_fits) (by unfold rZ_fits; simp only [if_pos h1, if_neg h2, if_neg h5, if_neg h8, if_neg h11, if_neg h14, if_neg h17, if_neg h19, if_neg h22, if_neg h25, if_neg h29, if_neg h33, if_pos h37, if_pos h38, if_neg h39]; try rfl) rfl rfl rfl
                            · skip
                              exact am_ri (S := sZ_fits) (by unfold rZ_fits; simp only [if_pos h1, if_neg h2, if_neg h5, if_neg h8, if_neg h11, if_neg h14, if_neg h17, if_neg h19, if_neg h22, if_neg h25, if_neg h29, if_neg h33, if_pos h37, if_neg h38]; try rfl) rfl rfl rfl
                          · skip
                            refine am_split (fun h40 => ?_) (fun h40 => ?_)
                            · skip
                              refine am_call (eZ_notRegister r _) ?_
                              refine am_split (fun h41 => ?_) (fun h41 => ?_)
                              · skip
                                refine am_call (eZ_outside s (-2048 : Int32) (2047 : Int32) _) ?_
                                refine am_split (fun h42 => ?_) (fun h42 => ?_)
                                · skip
                                  exact am_ri (S := sZ_fits) (by unfold rZ_fits; simp only [if_pos h1, if_neg h2, if_neg h5, if_neg h8, if_neg h11, if_neg h14, if_neg h17, if_neg h19, if_neg h22, if_neg h25, if_neg h29, if_neg h33, if_neg h37, if_pos h40, if_pos h41, if_pos h42]; try rfl) rfl rfl rfl
                                · skip
                                  exact am_ri (S := sZ_fits) (by unfold rZ_fits; simp only [if_pos h1, if_neg h2, if_neg h5, if_neg h8, if_neg h11, if_neg h14, if_neg h17, if_neg h19, if_neg h22, if_neg h25, if_neg h29, if_neg h33, if_neg h37, if_pos h40, if_pos h41, if_neg h42]; try rfl) rfl rfl rfl
                              · skip
                                exact am_ri (S := sZ_fits) (by unfold rZ_fits; simp only [if_pos h1, if_neg h2, if_neg h5, if_neg h8, if_neg h11, if_neg h14, if_neg h17, if_neg h19, if_neg h22, if_neg h25, if_neg h29, if_neg h33, if_neg h37, if_pos h40, if_neg h41]; try rfl) rfl rfl rfl
                            · skip
                              refine am_split (fun h43 => ?_) (fun h43 => ?_)
                              · skip
                                refine am_split (fun h44 => ?_) (fun h44 => ?_)
                                · skip
                                  refine am_split (fun h45 => ?_) (fun h45 => ?_)
                                  · skip
                                    exact am_ri (S := sZ_fits) (by unfold rZ_fits; simp only [if_pos h1, if_neg h2, if_neg h5, if_neg h8, if_neg h11, if_neg h14, if_neg h17, if_neg h19, if_neg h22, if_neg h25, if_neg h29, if_neg h33, if_neg h37, if_neg h40, if_pos h43, if_pos h44, if_pos h45]; try rfl) rfl rfl rfl
                                  · skip
                                    refine am_split (fun _ => ?_) (fun hz => absurd h44 hz)
                                    exact am_ri (S := sZ_fits) (by unfold rZ_fits; simp only [if_pos h1, if_neg h2, if_neg h5, if_neg h8, if_neg h11, if_neg h14, if_neg h17, if_neg h19, if_neg h22, if_neg h25, if_neg h29, if_neg h33, if_neg h37, if_neg h40, if_pos h43, if_pos h44, if_neg h45]; try rfl) rfl rfl rfl
                                · skip
                                  refine am_split (fun hz => absurd hz h44) (fun _ => ?_)
                                  refine am_split (fun h46 => ?_) (fun h46 => ?_)
                                  · skip
                                    exact am_ri (S := sZ_fits) (by unfold rZ_fits; simp only [if_pos h1, if_neg h2, if_neg h5, if_neg h8, if_neg h11, if_neg h14, if_neg h17, if_neg h19, if_neg h22, if_neg h25, if_neg h29, if_neg h33, if_neg h37, if_neg h40, if_pos h43, if_neg h44, if_pos h46]; try rfl) rfl rfl rfl
                                  · skip
                                    refine am_call (eZ_outside r (-32 : Int32) (31 : Int32) _) ?_
                                    refine am_split (fun h47 => ?_) (fun h47 => ?_)
                                    · skip
                                      exact am_ri (S := sZ_fits) (by unfold rZ_fits; simp only [if_pos h1, if_neg h2, if_neg h5, if_neg h8, if_neg h11, if_neg h14, if_neg h17, if_neg h19, if_neg h22, if_neg h25, if_neg h29, if_neg h33, if_neg h37, if_neg h40, if_pos h43, if_neg h44, if_neg h46, if_pos h47]; try rfl) rfl rfl rfl
                                    · skip
                                      exact am_ri (S := sZ_fits) (by unfold rZ_fits; simp only [if_pos h1, if_neg h2, if_neg h5, if_neg h8, if_neg h11, if_neg h14, if_neg h17, if_neg h19, if_neg h22, if_neg h25, if_neg h29, if_neg h33, if_neg h37, if_neg h40, if_pos h43, if_neg h44, if_neg h46, if_neg h47]; try rfl) rfl rfl rfl
                              · skip
                                refine am_split (fun h48 => ?_) (fun h48 => ?_)
                                · skip
                                  refine am_split (fun h49 => ?_) (fun h49 => ?_)
                                  · skip
                                    exact am_ri (S := sZ_fits) (by unfold rZ_fits; simp only [if_pos h1, if_neg h2, if_neg h5, if_neg h8, if_neg h11, if_neg h14, if_neg h17, if_neg h19, if_neg h22, if_neg h25, if_neg h29, if_neg h33, if_neg h37, if_neg h40, if_neg h43, if_pos h48, if_pos h49]; try rfl) rfl rfl rfl
                                  · skip
                                    refine am_split (fun h50 => ?_) (fun h50 => ?_)
                                    · skip
                                      exact am_ri (S := sZ_fits) (by unfold rZ_fits; simp only [if_pos h1, if_neg h2, if_neg h5, if_neg h8, if_neg h11, if_neg h14, if_neg h17, if_neg h19, if_neg h22, if_neg h25, if_neg h29, if_neg h33, if_neg h37, if_neg h40, if_neg h43, if_pos h48, if_neg h49, if_pos h50]; try rfl) rfl rfl rfl
                                    · skip
                                      refine am_call (eZ_notRegister r _) ?_
                                      refine am_split (fun h51 => ?_) (fun h51 => ?_)
                                      · skip
                                        exact am_ri (S := sZ_fits) (by unfold rZ_fits; simp only [if_pos h1, if_neg h2, if_neg h5, if_neg h8, if_neg h11, if_neg h14, if_neg h17, if_neg h19, if_neg h22, if_neg h25, if_neg h29, if_neg h33, if_neg h37, if_neg h40, if_neg h43, if_pos h48, if_neg h49, if_neg h50, if_pos h51]; try rfl) rfl rfl rfl
                                      · skip
                                        exact am_ri (S := sZ_fits) (by unfold rZ_fits; simp only [if_pos h1, if_neg h2, if_neg h5, if_neg h8, if_neg h11, if_neg h14, if_neg h17, if_neg h19, if_neg h22, if_neg h25, if_neg h29, if_neg h33, if_neg h37, if_neg h40, if_neg h43, if_pos h48, if_neg h49, if_neg h50, if_neg h51]; try rfl) rfl rfl rfl
                                · skip
                                  exact am_ri (S := sZ_fits) (by unfold rZ_fits; simp only [if_pos h1, if_neg h2, if_neg h5, if_neg h8, if_neg h11, if_neg h14, if_neg h17, if_neg h19, if_neg h22, if_neg h25, if_neg h29, if_neg h33, if_neg h37, if_neg h40, if_neg h43, if_neg h48]; try rfl) rfl rfl rfl
  · skip
    exact am_ri (S := sZ_fits) (by unfold rZ_fits; simp only [if_neg h1]; try rfl) rfl rfl rfl
theorem zoZ_fits (p q r s : Int32) : rZ_fits p q r s = 0 ∨ rZ_fits p q r s = 1 := by
  unfold rZ_fits
  repeat' (first | with_reducible refine zo_ite ?_ ?_ | with_reducible exact Or.inl rfl | with_reducible exact Or.inr rfl)
noncomputable def rZ_made (p q r s : Int32) : Int32 := if p = (0 : Int32) then (rZ_typeR (0 : Int32) s r (0 : Int32) q (51 : Int32)) else if p = (1 : Int32) then (rZ_typeR (32 : Int32) s r (0 : Int32) q (51 : Int32)) else if p = (2 : Int32) then (rZ_typeR (0 : Int32) s r (7 : Int32) q (51 : Int32)) else if p = (3 : Int32) then (rZ_typeR (0 : Int32) s r (6 : Int32) q (51 : Int32)) else if p = (4 : Int32) then (rZ_typeI s r (0 : Int32) q (19 : Int32)) else if p = (5 : Int32) then (((r <<< ((12 : Int32) &&& 31)) ||| (q <<< ((7 : Int32) &&& 31))) ||| (55 : Int32)) else if p = (6 : Int32) then (rZ_typeI s r (2 : Int32) q (3 : Int32)) else if p = (7 : Int32) then (rZ_typeR ((s >>> ((5 : Int32) &&& 31)) &&& (127 : Int32)) q r (2 : Int32) (s &&& (31 : Int32)) (35 : Int32)) else if p = (8 : Int32) then (rZ_branch (0 : Int32) q r s) else if p = (9 : Int32) then (rZ_branch (1 : Int32) q r s) else if p = (10 : Int32) then (rZ_branch (4 : Int32) q r s) else if p = (11 : Int32) then (rZ_jump q r) else if p = (12 : Int32) then (rZ_typeI s r (0 : Int32) q (103 : Int32)) else if p = (13 : Int32) then ((((((r >>> ((5 : Int32) &&& 31)) &&& (1 : Int32)) <<< ((12 : Int32) &&& 31)) ||| (q <<< ((7 : Int32) &&& 31))) ||| ((r &&& (31 : Int32)) <<< ((2 : Int32) &&& 31))) ||| (1 : Int32)) else ((((32768 : Int32) ||| (q <<< ((7 : Int32) &&& 31))) ||| (r <<< ((2 : Int32) &&& 31))) ||| (2 : Int32))
set_option maxHeartbeats 4000000 in
set_option maxRecDepth 100000 in
theorem eZ_made (p q r s : Int32) (ab : List am_Cl) : am_Ev sZ_made [.int p, .int q, .int r, .int s] ab (some (.int (rZ_made p q r s))) ab := by
  refine am_Ev_of cwZ_made rfl rfl rfl (am_wp_T gdZ_made 400 ?_)
  refine am_split (fun h1 => ?_) (fun h1 => ?_)
  · skip
    refine am_call (eZ_typeR (0 : Int32) s r (0 : Int32) q (51 : Int32) _) ?_
    exact am_ri (S := sZ_made) (by unfold rZ_made; simp only [if_pos h1]; try rfl) rfl rfl rfl
  · skip
    refine am_split (fun h2 => ?_) (fun h2 => ?_)
    · skip
      refine am_call (eZ_typeR (32 : Int32) s r (0 : Int32) q (51 : Int32) _) ?_
      exact am_ri (S := sZ_made) (by unfold rZ_made; simp only [if_neg h1, if_pos h2]; try rfl) rfl rfl rfl
    · skip
      refine am_split (fun h3 => ?_) (fun h3 => ?_)
      · skip
        refine am_call (eZ_typeR (0 : Int32) s r (7 : Int32) q (51 : Int32) _) ?_
        exact am_ri (S := sZ_made) (by unfold rZ_made; simp only [if_neg h1, if_neg h2, if_pos h3]; try rfl) rfl rfl rfl
      · skip
        refine am_split (fun h4 => ?_) (fun h4 => ?_)
        · skip
          refine am_call (eZ_typeR (0 : Int32) s r (6 : Int32) q (51 : Int32) _) ?_
          exact am_ri (S := sZ_made) (by unfold rZ_made; simp only [if_neg h1, if_neg h2, if_neg h3, if_pos h4]; try rfl) rfl rfl rfl
        · skip
          refine am_split (fun h5 => ?_) (fun h5 => ?_)
          · skip
            refine am_call (eZ_typeI s r (0 : Int32) q (19 : Int32) _) ?_
            exact am_ri (S := sZ_made) (by unfold rZ_made; simp only [if_neg h1, if_neg h2, if_neg h3, if_neg h4, if_pos h5]; try rfl) rfl rfl rfl
          · skip
            refine am_split (fun h6 => ?_) (fun h6 => ?_)
            · skip
              exact am_ri (S := sZ_made) (by unfold rZ_made; simp only [if_neg h1, if_neg h2, if_neg h3, if_neg h4, if_neg h5, if_pos h6]; try rfl) rfl rfl rfl
            · skip
              refine am_split (fun h7 => ?_) (fun h7 => ?_)
              · skip
                refine am_call (eZ_typeI s r (2 : Int32) q (3 : Int32) _) ?_
                exact am_ri (S := sZ_made) (by unfold rZ_made; simp only [if_neg h1, if_neg h2, if_neg h3, if_neg h4, if_neg h5, if_neg h6, if_pos h7]; try rfl) rfl rfl rfl
              · skip
                refine am_split (fun h8 => ?_) (fun h8 => ?_)
                · skip
                  refine am_call (eZ_typeR ((s >>> ((5 : Int32) &&& 31)) &&& (127 : Int32)) q r (2 : Int32) (s &&& (31 : Int32)) (35 : Int32) _) ?_
                  exact am_ri (S := sZ_made) (by unfold rZ_made; simp only [if_neg h1, if_neg h2, if_neg h3, if_neg h4, if_neg h5, if_neg h6, if_neg h7, if_pos h8]; try rfl) rfl rfl rfl
                · skip
                  refine am_split (fun h9 => ?_) (fun h9 => ?_)
                  · skip
                    refine am_call (eZ_branch (0 : Int32) q r s _) ?_
                    exact am_ri (S := sZ_made) (by unfold rZ_made; simp only [if_neg h1, if_neg h2, if_neg h3, if_neg h4, if_neg h5, if_neg h6, if_neg h7, if_neg h8, if_pos h9]; try rfl) rfl rfl rfl
                  · skip
                    refine am_split (fun h10 => ?_) (fun h10 => ?_)
                    · skip
                      refine am_call (eZ_branch (1 : Int32) q r s _) ?_
                      exact am_ri (S := sZ_made) (by unfold rZ_made; simp only [if_neg h1, if_neg h2, if_neg h3, if_neg h4, if_neg h5, if_neg h6, if_neg h7, if_neg h8, if_neg h9, if_pos h10]; try rfl) rfl rfl rfl
                    · skip
                      refine am_split (fun h11 => ?_) (fun h11 => ?_)
                      · skip
                        refine am_call (eZ_branch (4 : Int32) q r s _) ?_
                        exact am_ri (S := sZ_made) (by unfold rZ_made; simp only [if_neg h1, if_neg h2, if_neg h3, if_neg h4, if_neg h5, if_neg h6, if_neg h7, if_neg h8, if_neg h9, if_neg h10, if_pos h11]; try rfl) rfl rfl rfl
                      · skip
                        refine am_split (fun h12 => ?_) (fun h12 => ?_)
                        · skip
                          refine am_call (eZ_jump q r _) ?_
                          exact am_ri (S := sZ_made) (by unfold rZ_made; simp only [if_neg h1, if_neg h2, if_neg h3, if_neg h4, if_neg h5, if_neg h6, if_neg h7, if_neg h8, if_neg h9, if_neg h10, if_neg h11, if_pos h12]; try rfl) rfl rfl rfl
                        · skip
                          refine am_split (fun h13 => ?_) (fun h13 => ?_)
                          · skip
                            refine am_call (eZ_typeI s r (0 : Int32) q (103 : Int32) _) ?_
                            exact am_ri (S := sZ_made) (by unfold rZ_made; simp only [if_neg h1, if_neg h2, if_neg h3, if_neg h4, if_neg h5, if_neg h6, if_neg h7, if_neg h8, if_neg h9, if_neg h10, if_neg h11, if_neg h12, if_pos h13]; try rfl) rfl rfl rfl
                          · skip
                            refine am_split (fun h14 => ?_) (fun h14 => ?_)
                            · skip
                              exact am_ri (S := sZ_made) (by unfold rZ_made; simp only [if_neg h1, if_neg h2, if_neg h3, if_neg h4, if_neg h5, if_neg h6, if_neg h7, if_neg h8, if_neg h9, if_neg h10, if_neg h11, if_neg h12, if_neg h13, if_pos h14]; try rfl) rfl rfl rfl
                            · skip
                              exact am_ri (S := sZ_made) (by unfold rZ_made; simp only [if_neg h1, if_neg h2, if_neg h3, if_neg h4, if_neg h5, if_neg h6, if_neg h7, if_neg h8, if_neg h9, if_neg h10, if_neg h11, if_neg h12, if_neg h13, if_neg h14]; try rfl) rfl rfl rfl
noncomputable def rZ_fieldA (p q : Int32) : Int32 := if p = (7 : Int32) then ((q >>> ((20 : Int32) &&& 31)) &&& (31 : Int32)) else if p < (8 : Int32) then ((q >>> ((7 : Int32) &&& 31)) &&& (31 : Int32)) else if (10 : Int32) < p then ((q >>> ((7 : Int32) &&& 31)) &&& (31 : Int32)) else ((q >>> ((15 : Int32) &&& 31)) &&& (31 : Int32))
set_option maxHeartbeats 4000000 in
set_option maxRecDepth 100000 in
theorem eZ_fieldA (p q : Int32) (ab : List am_Cl) : am_Ev sZ_fieldA [.int p, .int q] ab (some (.int (rZ_fieldA p q))) ab := by
  refine am_Ev_of cwZ_fieldA rfl rfl rfl (am_wp_T gdZ_fieldA 400 ?_)
  refine am_split (fun h1 => ?_) (fun h1 => ?_)
  · skip
    exact am_ri (S := sZ_fieldA) (by unfold rZ_fieldA; simp only [if_pos h1]; try rfl) rfl rfl rfl
  · skip
    refine am_split (fun h2 => ?_) (fun h2 => ?_)
    · skip
      exact am_ri (S := sZ_fieldA) (by unfold rZ_fieldA; simp only [if_neg h1, if_pos h2]; try rfl) rfl rfl rfl
    · skip
      refine am_split (fun h3 => ?_) (fun h3 => ?_)
      · skip
        exact am_ri (S := sZ_fieldA) (by unfold rZ_fieldA; simp only [if_neg h1, if_neg h2, if_pos h3]; try rfl) rfl rfl rfl
      · skip
        exact am_ri (S := sZ_fieldA) (by unfold rZ_fieldA; simp only [if_neg h1, if_neg h2, if_neg h3]; try rfl) rfl rfl rfl
noncomputable def rZ_fieldB (p q : Int32) : Int32 := if p = (5 : Int32) then (Int32.toUInt32 q >>> (Int32.toUInt32 (12 : Int32) &&& Int32.toUInt32 31)).toInt32 else if p < (8 : Int32) then if p = (11 : Int32) then (((((q >>> ((31 : Int32) &&& 31)) * (1048576 : Int32)) ||| (((q >>> ((21 : Int32) &&& 31)) &&& (1023 : Int32)) <<< ((1 : Int32) &&& 31))) ||| (((q >>> ((20 : Int32) &&& 31)) &&& (1 : Int32)) <<< ((11 : Int32) &&& 31))) ||| (((q >>> ((12 : Int32) &&& 31)) &&& (255 : Int32)) <<< ((12 : Int32) &&& 31))) else if p = (13 : Int32) then if ((((q >>> ((12 : Int32) &&& 31)) &&& (1 : Int32)) <<< ((5 : Int32) &&& 31)) ||| ((q >>> ((2 : Int32) &&& 31)) &&& (31 : Int32))) ≤ (31 : Int32) then ((((q >>> ((12 : Int32) &&& 31)) &&& (1 : Int32)) <<< ((5 : Int32) &&& 31)) ||| ((q >>> ((2 : Int32) &&& 31)) &&& (31 : Int32))) else (((((q >>> ((12 : Int32) &&& 31)) &&& (1 : Int32)) <<< ((5 : Int32) &&& 31)) ||| ((q >>> ((2 : Int32) &&& 31)) &&& (31 : Int32))) - (64 : Int32)) else if p = (14 : Int32) then ((q >>> ((2 : Int32) &&& 31)) &&& (31 : Int32)) else ((q >>> ((15 : Int32) &&& 31)) &&& (31 : Int32)) else if (10 : Int32) < p then if p = (11 : Int32) then (((((q >>> ((31 : Int32) &&& 31)) * (1048576 : Int32)) ||| (((q >>> ((21 : Int32) &&& 31)) &&& (1023 : Int32)) <<< ((1 : Int32) &&& 31))) ||| (((q >>> ((20 : Int32) &&& 31)) &&& (1 : Int32)) <<< ((11 : Int32) &&& 31))) ||| (((q >>> ((12 : Int32) &&& 31)) &&& (255 : Int32)) <<< ((12 : Int32) &&& 31))) else if p = (13 : Int32) then if ((((q >>> ((12 : Int32) &&& 31)) &&& (1 : Int32)) <<< ((5 : Int32) &&& 31)) ||| ((q >>> ((2 : Int32) &&& 31)) &&& (31 : Int32))) ≤ (31 : Int32) then ((((q >>> ((12 : Int32) &&& 31)) &&& (1 : Int32)) <<< ((5 : Int32) &&& 31)) ||| ((q >>> ((2 : Int32) &&& 31)) &&& (31 : Int32))) else (((((q >>> ((12 : Int32) &&& 31)) &&& (1 : Int32)) <<< ((5 : Int32) &&& 31)) ||| ((q >>> ((2 : Int32) &&& 31)) &&& (31 : Int32))) - (64 : Int32)) else if p = (14 : Int32) then ((q >>> ((2 : Int32) &&& 31)) &&& (31 : Int32)) else ((q >>> ((15 : Int32) &&& 31)) &&& (31 : Int32)) else ((q >>> ((20 : Int32) &&& 31)) &&& (31 : Int32))
set_option maxHeartbeats 4000000 in
set_option maxRecDepth 100000 in
theorem eZ_fieldB (p q : Int32) (ab : List am_Cl) : am_Ev sZ_fieldB [.int p, .int q] ab (some (.int (rZ_fieldB p q))) ab := by
  refine am_Ev_of cwZ_fieldB rfl rfl rfl (am_wp_T gdZ_fieldB 400 ?_)
  refine am_split (fun h1 => ?_) (fun h1 => ?_)
  · skip
    exact am_ri (S := sZ_fieldB) (by unfold rZ_fieldB; simp only [if_pos h1]; try rfl) rfl rfl rfl
  · skip
    refine am_split (fun h2 => ?_) (fun h2 => ?_)
    · skip
      refine am_split (fun h3 => ?_) (fun h3 => ?_)
      · skip
        exact am_ri (S := sZ_fieldB) (by unfold rZ_fieldB; simp only [if_neg h1, if_pos h2, if_pos h3]; try rfl) rfl rfl rfl
      · skip
        refine am_split (fun h4 => ?_) (fun h4 => ?_)
        · skip
          refine am_split (fun h5 => ?_) (fun h5 => ?_)
          · skip
            exact am_ri (S := sZ_fieldB) (by unfold rZ_fieldB; simp only [if_neg h1, if_pos h2, if_neg h3, if_pos h4, if_pos h5]; try rfl) rfl rfl rfl
          · skip
            exact am_ri (S := sZ_fieldB) (by unfold rZ_fieldB; simp only [if_neg h1, if_pos h2, if_neg h3, if_pos h4, if_neg h5]; try rfl) rfl rfl rfl
        · skip
          refine am_split (fun h6 => ?_) (fun h6 => ?_)
          · skip
            exact am_ri (S := sZ_fieldB) (by unfold rZ_fieldB; simp only [if_neg h1, if_pos h2, if_neg h3, if_neg h4, if_pos h6]; try rfl) rfl rfl rfl
          · skip
            exact am_ri (S := sZ_fieldB) (by unfold rZ_fieldB; simp only [if_neg h1, if_pos h2, if_neg h3, if_neg h4, if_neg h6]; try rfl) rfl rfl rfl
    · skip
      refine am_split (fun h7 => ?_) (fun h7 => ?_)
      · skip
        refine am_split (fun h8 => ?_) (fun h8 => ?_)
        · skip
          exact am_ri (S := sZ_fieldB) (by unfold rZ_fieldB; simp only [if_neg h1, if_neg h2, if_pos h7, if_pos h8]; try rfl) rfl rfl rfl
        · skip
          refine am_split (fun h9 => ?_) (fun h9 => ?_)
          · skip
            refine am_split (fun h10 => ?_) (fun h10 => ?_)
            · skip
              exact am_ri (S := sZ_fieldB) (by unfold rZ_fieldB; simp only [if_neg h1, if_neg h2, if_pos h7, if_neg h8, if_pos h9, if_pos h10]; try rfl) rfl rfl rfl
            · skip
              exact am_ri (S := sZ_fieldB) (by unfold rZ_fieldB; simp only [if_neg h1, if_neg h2, if_pos h7, if_neg h8, if_pos h9, if_neg h10]; try rfl) rfl rfl rfl
          · skip
            refine am_split (fun h11 => ?_) (fun h11 => ?_)
            · skip
              exact am_ri (S := sZ_fieldB) (by unfold rZ_fieldB; simp only [if_neg h1, if_neg h2, if_pos h7, if_neg h8, if_neg h9, if_pos h11]; try rfl) rfl rfl rfl
            · skip
              exact am_ri (S := sZ_fieldB) (by unfold rZ_fieldB; simp only [if_neg h1, if_neg h2, if_pos h7, if_neg h8, if_neg h9, if_neg h11]; try rfl) rfl rfl rfl
      · skip
        exact am_ri (S := sZ_fieldB) (by unfold rZ_fieldB; simp only [if_neg h1, if_neg h2, if_neg h7]; try rfl) rfl rfl rfl
noncomputable def rZ_fieldC (p q : Int32) : Int32 := if (4 : Int32) ≤ p then if p = (7 : Int32) then (((q >>> ((25 : Int32) &&& 31)) <<< ((5 : Int32) &&& 31)) ||| ((q >>> ((7 : Int32) &&& 31)) &&& (31 : Int32))) else if p < (8 : Int32) then if p = (4 : Int32) then (q >>> ((20 : Int32) &&& 31)) else if p = (6 : Int32) then (q >>> ((20 : Int32) &&& 31)) else if p = (12 : Int32) then (q >>> ((20 : Int32) &&& 31)) else (0 : Int32) else if (10 : Int32) < p then if p = (4 : Int32) then (q >>> ((20 : Int32) &&& 31)) else if p = (6 : Int32) then (q >>> ((20 : Int32) &&& 31)) else if p = (12 : Int32) then (q >>> ((20 : Int32) &&& 31)) else (0 : Int32) else (((((q >>> ((31 : Int32) &&& 31)) <<< ((12 : Int32) &&& 31)) ||| (((q >>> ((7 : Int32) &&& 31)) &&& (1 : Int32)) <<< ((11 : Int32) &&& 31))) ||| (((q >>> ((25 : Int32) &&& 31)) &&& (63 : Int32)) <<< ((5 : Int32) &&& 31))) ||| (((q >>> ((8 : Int32) &&& 31)) &&& (15 : Int32)) <<< ((1 : Int32) &&& 31))) else ((q >>> ((20 : Int32) &&& 31)) &&& (31 : Int32))
set_option maxHeartbeats 4000000 in
set_option maxRecDepth 100000 in
theorem eZ_fieldC (p q : Int32) (ab : List am_Cl) : am_Ev sZ_fieldC [.int p, .int q] ab (some (.int (rZ_fieldC p q))) ab := by
  refine am_Ev_of cwZ_fieldC rfl rfl rfl (am_wp_T gdZ_fieldC 400 ?_)
  refine am_split (fun h1 => ?_) (fun h1 => ?_)
  · skip
    refine am_split (fun h2 => ?_) (fun h2 => ?_)
    · skip
      exact am_ri (S := sZ_fieldC) (by unfold rZ_fieldC; simp only [if_pos h1, if_pos h2]; try rfl) rfl rfl rfl
    · skip
      refine am_split (fun h3 => ?_) (fun h3 => ?_)
      · skip
        refine am_split (fun h4 => ?_) (fun h4 => ?_)
        · skip
          exact am_ri (S := sZ_fieldC) (by unfold rZ_fieldC; simp only [if_pos h1, if_neg h2, if_pos h3, if_pos h4]; try rfl) rfl rfl rfl
        · skip
          refine am_split (fun h5 => ?_) (fun h5 => ?_)
          · skip
            exact am_ri (S := sZ_fieldC) (by unfold rZ_fieldC; simp only [if_pos h1, if_neg h2, if_pos h3, if_neg h4, if_pos h5]; try rfl) rfl rfl rfl
          · skip
            refine am_split (fun h6 => ?_) (fun h6 => ?_)
            · skip
              exact am_ri (S := sZ_fieldC) (by unfold rZ_fieldC; simp only [if_pos h1, if_neg h2, if_pos h3, if_neg h4, if_neg h5, if_pos h6]; try rfl) rfl rfl rfl
            · skip
              exact am_ri (S := sZ_fieldC) (by unfold rZ_fieldC; simp only [if_pos h1, if_neg h2, if_pos h3, if_neg h4, if_neg h5, if_neg h6]; try rfl) rfl rfl rfl
      · skip
        refine am_split (fun h7 => ?_) (fun h7 => ?_)
        · skip
          refine am_split (fun h8 => ?_) (fun h8 => ?_)
          · skip
            exact am_ri (S := sZ_fieldC) (by unfold rZ_fieldC; simp only [if_pos h1, if_neg h2, if_neg h3, if_pos h7, if_pos h8]; try rfl) rfl rfl rfl
          · skip
            refine am_split (fun h9 => ?_) (fun h9 => ?_)
            · skip
              exact am_ri (S := sZ_fieldC) (by unfold rZ_fieldC; simp only [if_pos h1, if_neg h2, if_neg h3, if_pos h7, if_neg h8, if_pos h9]; try rfl) rfl rfl rfl
            · skip
              refine am_split (fun h10 => ?_) (fun h10 => ?_)
              · skip
                exact am_ri (S := sZ_fieldC) (by unfold rZ_fieldC; simp only [if_pos h1, if_neg h2, if_neg h3, if_pos h7, if_neg h8, if_neg h9, if_pos h10]; try rfl) rfl rfl rfl
              · skip
                exact am_ri (S := sZ_fieldC) (by unfold rZ_fieldC; simp only [if_pos h1, if_neg h2, if_neg h3, if_pos h7, if_neg h8, if_neg h9, if_neg h10]; try rfl) rfl rfl rfl
        · skip
          exact am_ri (S := sZ_fieldC) (by unfold rZ_fieldC; simp only [if_pos h1, if_neg h2, if_neg h3, if_neg h7]; try rfl) rfl rfl rfl
  · skip
    exact am_ri (S := sZ_fieldC) (by unfold rZ_fieldC; simp only [if_neg h1]; try rfl) rfl rfl rfl
noncomputable def rZ_isLong (p : Int32) : Int32 := if (p &&& (3 : Int32)) = (3 : Int32) then (1 : Int32) else (0 : Int32)
set_option maxHeartbeats 4000000 in
set_option maxRecDepth 100000 in
theorem eZ_isLong (p : Int32) (ab : List am_Cl) : am_Ev sZ_isLong [.int p] ab (some (.int (rZ_isLong p))) ab := by
  refine am_Ev_of cwZ_isLong rfl rfl rfl (am_wp_T gdZ_isLong 400 ?_)
  refine am_split (fun h1 => ?_) (fun h1 => ?_)
  · skip
    exact am_ri (S := sZ_isLong) (by unfold rZ_isLong; simp only [if_pos h1]; try rfl) rfl rfl rfl
  · skip
    exact am_ri (S := sZ_isLong) (by unfold rZ_isLong; simp only [if_neg h1]; try rfl) rfl rfl rfl
theorem zoZ_isLong (p : Int32) : rZ_isLong p = 0 ∨ rZ_isLong p = 1 := by
  unfold rZ_isLong
  repeat' (first | with_reducible refine zo_ite ?_ ?_ | with_reducible exact Or.inl rfl | with_reducible exact Or.inr rfl)
noncomputable def rZ_notOwn (p : Int32) : Int32 := if p < (0 : Int32) then (1 : Int32) else if p ≤ (26 : Int32) then (0 : Int32) else (1 : Int32)
set_option maxHeartbeats 4000000 in
set_option maxRecDepth 100000 in
theorem eZ_notOwn (p : Int32) (ab : List am_Cl) : am_Ev sZ_notOwn [.int p] ab (some (.int (rZ_notOwn p))) ab := by
  refine am_Ev_of cwZ_notOwn rfl rfl rfl (am_wp_T gdZ_notOwn 400 ?_)
  refine am_split (fun h1 => ?_) (fun h1 => ?_)
  · skip
    exact am_ri (S := sZ_notOwn) (by unfold rZ_notOwn; simp only [if_pos h1]; try rfl) rfl rfl rfl
  · skip
    refine am_split (fun h2 => ?_) (fun h2 => ?_)
    · skip
      exact am_ri (S := sZ_notOwn) (by unfold rZ_notOwn; simp only [if_neg h1, if_pos h2]; try rfl) rfl rfl rfl
    · skip
      exact am_ri (S := sZ_notOwn) (by unfold rZ_notOwn; simp only [if_neg h1, if_neg h2]; try rfl) rfl rfl rfl
theorem zoZ_notOwn (p : Int32) : rZ_notOwn p = 0 ∨ rZ_notOwn p = 1 := by
  unfold rZ_notOwn
  repeat' (first | with_reducible refine zo_ite ?_ ?_ | with_reducible exact Or.inl rfl | with_reducible exact Or.inr rfl)
noncomputable def rZ_notTarget (p : Int32) : Int32 := if p < (0 : Int32) then (1 : Int32) else if p ≤ (20 : Int32) then (0 : Int32) else (1 : Int32)
set_option maxHeartbeats 4000000 in
set_option maxRecDepth 100000 in
theorem eZ_notTarget (p : Int32) (ab : List am_Cl) : am_Ev sZ_notTarget [.int p] ab (some (.int (rZ_notTarget p))) ab := by
  refine am_Ev_of cwZ_notTarget rfl rfl rfl (am_wp_T gdZ_notTarget 400 ?_)
  refine am_split (fun h1 => ?_) (fun h1 => ?_)
  · skip
    exact am_ri (S := sZ_notTarget) (by unfold rZ_notTarget; simp only [if_pos h1]; try rfl) rfl rfl rfl
  · skip
    refine am_split (fun h2 => ?_) (fun h2 => ?_)
    · skip
      exact am_ri (S := sZ_notTarget) (by unfold rZ_notTarget; simp only [if_neg h1, if_pos h2]; try rfl) rfl rfl rfl
    · skip
      exact am_ri (S := sZ_notTarget) (by unfold rZ_notTarget; simp only [if_neg h1, if_neg h2]; try rfl) rfl rfl rfl
theorem zoZ_notTarget (p : Int32) : rZ_notTarget p = 0 ∨ rZ_notTarget p = 1 := by
  unfold rZ_notTarget
  repeat' (first | with_reducible refine zo_ite ?_ ?_ | with_reducible exact Or.inl rfl | with_reducible exact Or.inr rfl)
noncomputable def rZ_isLine (p q r s : Int32) : Int32 := if (rZ_outside p (0 : Int32) (16 : Int32)) = (0 : Int32) then if p = (15 : Int32) then if (rZ_outside q (0 : Int32) (2 : Int32)) = (0 : Int32) then (1 : Int32) else (0 : Int32) else if p = (16 : Int32) then if (rZ_notOwn q) = (0 : Int32) then if (rZ_notTarget r) = (0 : Int32) then (1 : Int32) else (0 : Int32) else (0 : Int32) else if p = (11 : Int32) then if (rZ_notOwn q) = (0 : Int32) then if (rZ_notTarget r) = (0 : Int32) then (1 : Int32) else (0 : Int32) else (0 : Int32) else if p < (8 : Int32) then if (rZ_notOwn q) = (0 : Int32) then if p = (5 : Int32) then if (4 : Int32) ≤ p then if p = (12 : Int32) then (rZ_fits p q r (0 : Int32)) else (rZ_fits p q r s) else if (rZ_notOwn s) = (0 : Int32) then if p = (12 : Int32) then (rZ_fits p q r (0 : Int32)) else (rZ_fits p q r s) else (0 : Int32) else if p = (13 : Int32) then if (4 : Int32) ≤ p then if p = (12 : Int32) then (rZ_fits p q r (0 : Int32)) else (rZ_fits p q r s) else if (rZ_notOwn s) = (0 : Int32) then if p = (12 : Int32) then (rZ_fits p q r (0 : Int32)) else (rZ_fits p q r s) else (0 : Int32) else if (rZ_notOwn r) = (0 : Int32) then if (4 : Int32) ≤ p then if p = (12 : Int32) then (rZ_fits p q r (0 : Int32)) else (rZ_fits p q r s) else if (rZ_notOwn s) = (0 : Int32) then if p = (12 : Int32) then (rZ_fits p q r (0 : Int32)) else (rZ_fits p q r s) else (0 : Int32) else (0 : Int32) else (0 : Int32) else if (10 : Int32) < p then if (rZ_notOwn q) = (0 : Int32) then if p = (5 : Int32) then if (4 : Int32) ≤ p then if p = (12 : Int32) then (rZ_fits p q r (0 : Int32)) else (rZ_fits p q r s) else if (rZ_notOwn s) = (0 : Int32) then if p = (12 : Int32) then (rZ_fits p q r (0 : Int32)) else (rZ_fits p q r s) else (0 : Int32) else if p = (13 : Int32) then if (4 : Int32) ≤ p then if p = (12 : Int32) then (rZ_fits p q r (0 : Int32)) else (rZ_fits p q r s) else if (rZ_notOwn s) = (0 : Int32) then if p = (12 : Int32) then (rZ_fits p q r (0 : Int32)) else (rZ_fits p q r s) else (0 : Int32) else if (rZ_notOwn r) = (0 : Int32) then if (4 : Int32) ≤ p then if p = (12 : Int32) then (rZ_fits p q r (0 : Int32)) else (rZ_fits p q r s) else if (rZ_notOwn s) = (0 : Int32) then if p = (12 : Int32) then (rZ_fits p q r (0 : Int32)) else (rZ_fits p q r s) else (0 : Int32) else (0 : Int32) else (0 : Int32) else if (rZ_notOwn q) = (0 : Int32) then if (rZ_notOwn r) = (0 : Int32) then if (rZ_notTarget s) = (0 : Int32) then (1 : Int32) else (0 : Int32) else (0 : Int32) else (0 : Int32) else (0 : Int32)
set_option maxHeartbeats 4000000 in
set_option maxRecDepth 100000 in
theorem eZ_isLine (p q r s : Int32) (ab : List am_Cl) : am_Ev sZ_isLine [.int p, .int q, .int r, .int s] ab (some (.int (rZ_isLine p q r s))) ab := by
  refine am_Ev_of cwZ_isLine rfl rfl rfl (am_wp_T gdZ_isLine 400 ?_)
  refine am_call (eZ_outside p (0 : Int32) (16 : Int32) _) ?_
  refine am_split (fun h1 => ?_) (fun h1 => ?_)
  · skip
    refine am_split (fun h2 => ?_) (fun h2 => ?_)
    · skip
      refine am_call (eZ_outside q (0 : Int32) (2 : Int32) _) ?_
      refine am_split (fun h3 => ?_) (fun h3 => ?_)
      · skip
        exact am_ri (S := sZ_isLine) (by unfold rZ_isLine; simp only [if_pos h1, if_pos h2, if_pos h3]; try rfl) rfl rfl rfl
      · skip
        exact am_ri (S := sZ_isLine) (by unfold rZ_isLine; simp only [if_pos h1, if_pos h2, if_neg h3]; try rfl) rfl rfl rfl
    · skip
      refine am_split (fun h4 => ?_) (fun h4 => ?_)
      · skip
        refine am_call (eZ_notOwn q _) ?_
        refine am_split (fun h5 => ?_) (fun h5 => ?_)
        · skip
          refine am_call (eZ_notTarget r _) ?_
          refine am_split (fun h6 => ?_) (fun h6 => ?_)
          · skip
            exact am_ri (S := sZ_isLine) (by unfold rZ_isLine; simp only [if_pos h1, if_neg h2, if_pos h4, if_pos h5, if_pos h6]; try rfl) rfl rfl rfl
          · skip
            exact am_ri (S := sZ_isLine) (by unfold rZ_isLine; simp only [if_pos h1, if_neg h2, if_pos h4, if_pos h5, if_neg h6]; try rfl) rfl rfl rfl
        · skip
          exact am_ri (S := sZ_isLine) (by unfold rZ_isLine; simp only [if_pos h1, if_neg h2, if_pos h4, if_neg h5]; try rfl) rfl rfl rfl
      · skip
        refine am_split (fun h7 => ?_) (fun h7 => ?_)
        · skip
          refine am_call (eZ_notOwn q _) ?_
          refine am_split (fun h8 => ?_) (fun h8 => ?_)
          · skip
            refine am_call (eZ_notTarget r _) ?_
            refine am_split (fun h9 => ?_) (fun h9 => ?_)
            · skip
              exact am_ri (S := sZ_isLine) (by unfold rZ_isLine; simp only [if_pos h1, if_neg h2, if_neg h4, if_pos h7, if_pos h8, if_pos h9]; try rfl) rfl rfl rfl
            · skip
              exact am_ri (S := sZ_isLine) (by unfold rZ_isLine; simp only [if_pos h1, if_neg h2, if_neg h4, if_pos h7, if_pos h8, if_neg h9]; try rfl) rfl rfl rfl
          · skip
            exact am_ri (S := sZ_isLine) (by unfold rZ_isLine; simp only [if_pos h1, if_neg h2, if_neg h4, if_pos h7, if_neg h8]; try rfl) rfl rfl rfl
        · skip
          refine am_split (fun h10 => ?_) (fun h10 => ?_)
          · skip
            refine am_call (eZ_notOwn q _) ?_
            refine am_split (fun h11 => ?_) (fun h11 => ?_)
            · skip
              refine am_split (fun h12 => ?_) (fun h12 => ?_)
              · skip
                refine am_split (fun h13 => ?_) (fun h13 => ?_)
                · skip
                  refine am_split (fun h14 => ?_) (fun h14 => ?_)
                  · skip
                    refine am_call (eZ_fits p q r (0 : Int32) _) ?_
                    exact am_ri (S := sZ_isLine) (by unfold rZ_isLine; simp only [if_pos h1, if_neg h2, if_neg h4, if_neg h7, if_pos h10, if_pos h11, if_pos h12, if_pos h13, if_pos h14]; try rfl) rfl rfl (am_nz (zoZ_fits p q r (0 : Int32)))
                  · skip
                    refine am_call (eZ_fits p q r s _) ?_
                    exact am_ri (S := sZ_isLine) (by unfold rZ_isLine; simp only [if_pos h1, if_neg h2, if_neg h4, if_neg h7, if_pos h10, if_pos h11, if_pos h12, if_pos h13, if_neg h14]; try rfl) rfl rfl (am_nz (zoZ_fits p q r s))
                · skip
                  refine am_call (eZ_notOwn s _) ?_
                  refine am_split (fun h15 => ?_) (fun h15 => ?_)
                  · skip
                    refine am_split (fun h16 => ?_) (fun h16 => ?_)
                    · skip
                      refine am_call (eZ_fits p q r (0 : Int32) _) ?_
                      exact am_ri (S := sZ_isLine) (by unfold rZ_isLine; simp only [if_pos h1, if_neg h2, if_neg h4, if_neg h7, if_pos h10, if_pos h11, if_pos h12, if_neg h13, if_pos h15, if_pos h16]; try rfl) rfl rfl (am_nz (zoZ_fits p q r (0 : Int32)))
                    · skip
                      refine am_call (eZ_fits p q r s _) ?_
                      exact am_ri (S := sZ_isLine) (by unfold rZ_isLine; simp only [if_pos h1, if_neg h2, if_neg h4, if_neg h7, if_pos h10, if_pos h11, if_pos h12, if_neg h13, if_pos h15, if_neg h16]; try rfl) rfl rfl (am_nz (zoZ_fits p q r s))
                  · skip
                    exact am_ri (S := sZ_isLine) (by unfold rZ_isLine; simp only [if_pos h1, if_neg h2, if_neg h4, if_neg h7, if_pos h10, if_pos h11, if_pos h12, if_neg h13, if_neg h15]; try rfl) rfl rfl rfl
              · skip
                refine am_split (fun h17 => ?_) (fun h17 => ?_)
                · skip
                  refine am_split (fun h18 => ?_) (fun h18 => ?_)
                  · skip
                    refine am_split (fun h19 => ?_) (fun h19 => ?_)
                    · skip
                      refine am_call (eZ_fits p q r (0 : Int32) _) ?_
                      exact am_ri (S := sZ_isLine) (by unfold rZ_isLine; simp only [if_pos h1, if_neg h2, if_neg h4, if_neg h7, if_pos h10, if_pos h11, if_neg h12, if_pos h17, if_pos h18, if_pos h19]; try rfl) rfl rfl (am_nz (zoZ_fits p q r (0 : Int32)))
                    · skip
                      refine am_call (eZ_fits p q r s _) ?_
                      exact am_ri (S := sZ_isLine) (by unfold rZ_isLine; simp only [if_pos h1, if_neg h2, if_neg h4, if_neg h7, if_pos h10, if_pos h11, if_neg h12, if_pos h17, if_pos h18, if_neg h19]; try rfl) rfl rfl (am_nz (zoZ_fits p q r s))
                  · skip
                    refine am_call (eZ_notOwn s _) ?_
                    refine am_split (fun h20 => ?_) (fun h20 => ?_)
                    · skip
                      refine am_split (fun h21 => ?_) (fun h21 => ?_)
                      · skip
                        refine am_call (eZ_fits p q r (0 : Int32) _) ?_
                        exact am_ri (S := sZ_isLine) (by unfold rZ_isLine; simp only [if_pos h1, if_neg h2, if_neg h4, if_neg h7, if_pos h10, if_pos h11, if_neg h12, if_pos h17, if_neg h18, if_pos h20, if_pos h21]; try rfl) rfl rfl (am_nz (zoZ_fits p q r (0 : Int32)))
                      · skip
                        refine am_call (eZ_fits p q r s _) ?_
                        exact am_ri (S := sZ_isLine) (by unfold rZ_isLine; simp only [if_pos h1, if_neg h2, if_neg h4, if_neg h7, if_pos h10, if_pos h11, if_neg h12, if_pos h17, if_neg h18, if_pos h20, if_neg h21]; try rfl) rfl rfl (am_nz (zoZ_fits p q r s))
                    · skip
                      exact am_ri (S := sZ_isLine) (by unfold rZ_isLine; simp only [if_pos h1, if_neg h2, if_neg h4, if_neg h7, if_pos h10, if_pos h11, if_neg h12, if_pos h17, if_neg h18, if_neg h20]; try rfl) rfl rfl rfl
                · skip
                  refine am_call (eZ_notOwn r _) ?_
                  refine am_split (fun h22 => ?_) (fun h22 => ?_)
                  · skip
                    refine am_split (fun h23 => ?_) (fun h23 => ?_)
                    · skip
                      refine am_split (fun h24 => ?_) (fun h24 => ?_)
                      · skip
                        refine am_call (eZ_fits p q r (0 : Int32) _) ?_
                        exact am_ri (S := sZ_isLine) (by unfold rZ_isLine; simp only [if_pos h1, if_neg h2, if_neg h4, if_neg h7, if_pos h10, if_pos h11, if_neg h12, if_neg h17, if_pos h22, if_pos h23, if_pos h24]; try rfl) rfl rfl (am_nz (zoZ_fits p q r (0 : Int32)))
                      · skip
                        refine am_call (eZ_fits p q r s _) ?_
                        exact am_ri (S := sZ_isLine) (by unfold rZ_isLine; simp only [if_pos h1, if_neg h2, if_neg h4, if_neg h7, if_pos h10, if_pos h11, if_neg h12, if_neg h17, if_pos h22, if_pos h23, if_neg h24]; try rfl) rfl rfl (am_nz (zoZ_fits p q r s))
                    · skip
                      refine am_call (eZ_notOwn s _) ?_
                      refine am_split (fun h25 => ?_) (fun h25 => ?_)
                      · skip
                        refine am_split (fun h26 => ?_) (fun h26 => ?_)
                        · skip
                          refine am_call (eZ_fits p q r (0 : Int32) _) ?_
                          exact am_ri (S := sZ_isLine) (by unfold rZ_isLine; simp only [if_pos h1, if_neg h2, if_neg h4, if_neg h7, if_pos h10, if_pos h11, if_neg h12, if_neg h17, if_pos h22, if_neg h23, if_pos h25, if_pos h26]; try rfl) rfl rfl (am_nz (zoZ_fits p q r (0 : Int32)))
                        · skip
                          refine am_call (eZ_fits p q r s _) ?_
                          exact am_ri (S := sZ_isLine) (by unfold rZ_isLine; simp only [if_pos h1, if_neg h2, if_neg h4, if_neg h7, if_pos h10, if_pos h11, if_neg h12, if_neg h17, if_pos h22, if_neg h23, if_pos h25, if_neg h26]; try rfl) rfl rfl (am_nz (zoZ_fits p q r s))
                      · skip
                        exact am_ri (S := sZ_isLine) (by unfold rZ_isLine; simp only [if_pos h1, if_neg h2, if_neg h4, if_neg h7, if_pos h10, if_pos h11, if_neg h12, if_neg h17, if_pos h22, if_neg h23, if_neg h25]; try rfl) rfl rfl rfl
                  · skip
                    exact am_ri (S := sZ_isLine) (by unfold rZ_isLine; simp only [if_pos h1, if_neg h2, if_neg h4, if_neg h7, if_pos h10, if_pos h11, if_neg h12, if_neg h17, if_neg h22]; try rfl) rfl rfl rfl
            · skip
              exact am_ri (S := sZ_isLine) (by unfold rZ_isLine; simp only [if_pos h1, if_neg h2, if_neg h4, if_neg h7, if_pos h10, if_neg h11]; try rfl) rfl rfl rfl
          · skip
            refine am_split (fun h27 => ?_) (fun h27 => ?_)
            · skip
              refine am_call (eZ_notOwn q _) ?_
              refine am_split (fun h28 => ?_) (fun h28 => ?_)
              · skip
                refine am_split (fun h29 => ?_) (fun h29 => ?_)
                · skip
                  refine am_split (fun h30 => ?_) (fun h30 => ?_)
                  · skip
                    refine am_split (fun h31 => ?_) (fun h31 => ?_)
                    · skip
                      refine am_call (eZ_fits p q r (0 : Int32) _) ?_
                      exact am_ri (S := sZ_isLine) (by unfold rZ_isLine; simp only [if_pos h1, if_neg h2, if_neg h4, if_neg h7, if_neg h10, if_pos h27, if_pos h28, if_pos h29, if_pos h30, if_pos h31]; try rfl) rfl rfl (am_nz (zoZ_fits p q r (0 : Int32)))
                    · skip
                      refine am_call (eZ_fits p q r s _) ?_
                      exact am_ri (S := sZ_isLine) (by unfold rZ_isLine; simp only [if_pos h1, if_neg h2, if_neg h4, if_neg h7, if_neg h10, if_pos h27, if_pos h28, if_pos h29, if_pos h30, if_neg h31]; try rfl) rfl rfl (am_nz (zoZ_fits p q r s))
                  · skip
                    refine am_call (eZ_notOwn s _) ?_
                    refine am_split (fun h32 => ?_) (fun h32 => ?_)
                    · skip
                      refine am_split (fun h33 => ?_) (fun h33 => ?_)
                      · skip
                        refine am_call (eZ_fits p q r (0 : Int32) _) ?_
                        exact am_ri (S := sZ_isLine) (by unfold rZ_isLine; simp only [if_pos h1, if_neg h2, if_neg h4, if_neg h7, if_neg h10, if_pos h27, if_pos h28, if_pos h29, if_neg h30, if_pos h32, if_pos h33]; try rfl) rfl rfl (am_nz (zoZ_fits p q r (0 : Int32)))
                      · skip
                        refine am_call (eZ_fits p q r s _) ?_
                        exact am_ri (S := sZ_isLine) (by unfold rZ_isLine; simp only [if_pos h1, if_neg h2, if_neg h4, if_neg h7, if_neg h10, if_pos h27, if_pos h28, if_pos h29, if_neg h30, if_pos h32, if_neg h33]; try rfl) rfl rfl (am_nz (zoZ_fits p q r s))
                    · skip
                      exact am_ri (S := sZ_isLine) (by unfold rZ_isLine; simp only [if_pos h1, if_neg h2, if_neg h4, if_neg h7, if_neg h10, if_pos h27, if_pos h28, if_pos h29, if_neg h30, if_neg h32]; try rfl) rfl rfl rfl
                · skip
                  refine am_split (fun h34 => ?_) (fun h34 => ?_)
                  · skip
                    refine am_split (fun h35 => ?_) (fun h35 => ?_)
                    · skip
                      refine am_split (fun h36 => ?_) (fun h36 => ?_)
                      · skip
                        refine am_call (eZ_fits p q r (0 : Int32) _) ?_
                        exact am_ri (S := sZ_isLine) (by unfold rZ_isLine; simp only [if_pos h1, if_neg h2, if_neg h4, if_neg h7, if_neg h10, if_pos h27, if_pos h28, if_neg h29, if_pos h34, if_pos h35, if_pos h36]; try rfl) rfl rfl (am_nz (zoZ_fits p q r (0 : Int32)))
                      · skip
                        refine am_call (eZ_fits p q r s _) ?_
                        exact am_ri (S := sZ_isLine) (by unfold rZ_isLine; simp only [if_pos h1, if_neg h2, if_neg h4, if_neg h7, if_neg h10, if_pos h27, if_pos h28, if_neg h29, if_pos h34, if_pos h35, if_neg h36]; try rfl) rfl rfl (am_nz (zoZ_fits p q r s))
                    · skip
                      refine am_call (eZ_notOwn s _) ?_
                      refine am_split (fun h37 => ?_) (fun h37 => ?_)
                      · skip
                        refine am_split (fun h38 => ?_) (fun h38 => ?_)
                        · skip
                          refine am_call (eZ_fits p q r (0 : Int32) _) ?_
                          exact am_ri (S := sZ_isLine) (by unfold rZ_isLine; simp only [if_pos h1, if_neg h2, if_neg h4, if_neg h7, if_neg h10, if_pos h27, if_pos h28, if_neg h29, if_pos h34, if_neg h35, if_pos h37, if_pos h38]; try rfl) rfl rfl (am_nz (zoZ_fits p q r (0 : Int32)))
                        · skip
                          refine am_call (eZ_fits p q r s _) ?_
                          exact am_ri (S := sZ_isLine) (by unfold rZ_isLine; simp only [if_pos h1, if_neg h2, if_neg h4, if_neg h7, if_neg h10, if_pos h27, if_pos h28, if_neg h29, if_pos h34, if_neg h35, if_pos h37, if_neg h38]; try rfl) rfl rfl (am_nz (zoZ_fits p q r s))
                      · skip
                        exact am_ri (S := sZ_isLine) (by unfold rZ_isLine; simp only [if_pos h1, if_neg h2, if_neg h4, if_neg h7, if_neg h10, if_pos h27, if_pos h28, if_neg h29, if_pos h34, if_neg h35, if_neg h37]; try rfl) rfl rfl rfl
                  · skip
                    refine am_call (eZ_notOwn r _) ?_
                    refine am_split (fun h39 => ?_) (fun h39 => ?_)
                    · skip
                      refine am_split (fun h40 => ?_) (fun h40 => ?_)
                      · skip
                        refine am_split (fun h41 => ?_) (fun h41 => ?_)
                        · skip
                          refine am_call (eZ_fits p q r (0 : Int32) _) ?_
                          exact am_ri (S := sZ_isLine) (by unfold rZ_isLine; simp only [if_pos h1, if_neg h2, if_neg h4, if_neg h7, if_neg h10, if_pos h27, if_pos h28, if_neg h29, if_neg h34, if_pos h39, if_pos h40, if_pos h41]; try rfl) rfl rfl (am_nz (zoZ_fits p q r (0 : Int32)))
                        · skip
                          refine am_call (eZ_fits p q r s _) ?_
                          exact am_ri (S := sZ_isLine) (by unfold rZ_isLine; simp only [if_pos h1, if_neg h2, if_neg h4, if_neg h7, if_neg h10, if_pos h27, if_pos h28, if_neg h29, if_neg h34, if_pos h39, if_pos h40, if_neg h41]; try rfl) rfl rfl (am_nz (zoZ_fits p q r s))
                      · skip
                        refine am_call (eZ_notOwn s _) ?_
                        refine am_split (fun h42 => ?_) (fun h42 => ?_)
                        · skip
                          refine am_split (fun h43 => ?_) (fun h43 => ?_)
                          · skip
                            refine am_call (eZ_fits p q r (0 : Int32) _) ?_
                            exact am_ri (S := sZ_isLine) (by unfold rZ_isLine; simp only [if_pos h1, if_neg h2, if_neg h4, if_neg h7, if_neg h10, if_pos h27, if_pos h28, if_neg h29, if_neg h34, if_pos h39, if_neg h40, if_pos h42, if_pos h43]; try rfl) rfl rfl (am_nz (zoZ_fits p q r (0 : Int32)))
                          · skip
                            refine am_call (eZ_fits p q r s _) ?_
                            exact am_ri (S := sZ_isLine) (by unfold rZ_isLine; simp only [if_pos h1, if_neg h2, if_neg h4, if_neg h7, if_neg h10, if_pos h27, if_pos h28, if_neg h29, if_neg h34, if_pos h39, if_neg h40, if_pos h42, if_neg h43]; try rfl) rfl rfl (am_nz (zoZ_fits p q r s))
                        · skip
                          exact am_ri (S := sZ_isLine) (by unfold rZ_isLine; simp only [if_pos h1, if_neg h2, if_neg h4, if_neg h7, if_neg h10, if_pos h27, if_pos h28, if_neg h29, if_neg h34, if_pos h39, if_neg h40, if_neg h42]; try rfl) rfl rfl rfl
                    · skip
                      exact am_ri (S := sZ_isLine) (by unfold rZ_isLine; simp only [if_pos h1, if_neg h2, if_neg h4, if_neg h7, if_neg h10, if_pos h27, if_pos h28, if_neg h29, if_neg h34, if_neg h39]; try rfl) rfl rfl rfl
              · skip
                exact am_ri (S := sZ_isLine) (by unfold rZ_isLine; simp only [if_pos h1, if_neg h2, if_neg h4, if_neg h7, if_neg h10, if_pos h27, if_neg h28]; try rfl) rfl rfl rfl
            · skip
              refine am_call (eZ_notOwn q _) ?_
              refine am_split (fun h44 => ?_) (fun h44 => ?_)
              · skip
                refine am_call (eZ_notOwn r _) ?_
                refine am_split (fun h45 => ?_) (fun h45 => ?_)
                · skip
                  refine am_call (eZ_notTarget s _) ?_
                  refine am_split (fun h46 => ?_) (fun h46 => ?_)
                  · skip
                    exact am_ri (S := sZ_isLine) (by unfold rZ_isLine; simp only [if_pos h1, if_neg h2, if_neg h4, if_neg h7, if_neg h10, if_neg h27, if_pos h44, if_pos h45, if_pos h46]; try rfl) rfl rfl rfl
                  · skip
                    exact am_ri (S := sZ_isLine) (by unfold rZ_isLine; simp only [if_pos h1, if_neg h2, if_neg h4, if_neg h7, if_neg h10, if_neg h27, if_pos h44, if_pos h45, if_neg h46]; try rfl) rfl rfl rfl
                · skip
                  exact am_ri (S := sZ_isLine) (by unfold rZ_isLine; simp only [if_pos h1, if_neg h2, if_neg h4, if_neg h7, if_neg h10, if_neg h27, if_pos h44, if_neg h45]; try rfl) rfl rfl rfl
              · skip
                exact am_ri (S := sZ_isLine) (by unfold rZ_isLine; simp only [if_pos h1, if_neg h2, if_neg h4, if_neg h7, if_neg h10, if_neg h27, if_neg h44]; try rfl) rfl rfl rfl
  · skip
    exact am_ri (S := sZ_isLine) (by unfold rZ_isLine; simp only [if_neg h1]; try rfl) rfl rfl rfl
theorem zoZ_isLine (p q r s : Int32) : rZ_isLine p q r s = 0 ∨ rZ_isLine p q r s = 1 := by
  unfold rZ_isLine
  repeat' (first | with_reducible refine zo_ite ?_ ?_ | with_reducible exact zoZ_fits .. | with_reducible exact Or.inl rfl | with_reducible exact Or.inr rfl)
noncomputable def rZ_rest (p : Int32) : Int32 := (((16 : Int32) - (p - p / (16 : Int32) * (16 : Int32))) - ((16 : Int32) - (p - p / (16 : Int32) * (16 : Int32))) / (16 : Int32) * (16 : Int32))
set_option maxHeartbeats 4000000 in
set_option maxRecDepth 100000 in
theorem eZ_rest (p : Int32) (ab : List am_Cl) : am_Ev sZ_rest [.int p] ab (some (.int (rZ_rest p))) ab := by
  refine am_Ev_of cwZ_rest rfl rfl rfl (am_wp_T gdZ_rest 400 ?_)
  exact am_ri (S := sZ_rest) rfl rfl rfl rfl
noncomputable def rZ_bytesOf (p : Int32) : Int32 := if (rZ_isLong p) = (0 : Int32) then (2 : Int32) else (4 : Int32)
set_option maxHeartbeats 4000000 in
set_option maxRecDepth 100000 in
theorem eZ_bytesOf (p : Int32) (ab : List am_Cl) : am_Ev sZ_bytesOf [.int p] ab (some (.int (rZ_bytesOf p))) ab := by
  refine am_Ev_of cwZ_bytesOf rfl rfl rfl (am_wp_T gdZ_bytesOf 400 ?_)
  refine am_call (eZ_isLong p _) ?_
  refine am_split (fun h1 => ?_) (fun h1 => ?_)
  · skip
    exact am_ri (S := sZ_bytesOf) (by unfold rZ_bytesOf; simp only [if_pos h1]; try rfl) rfl rfl rfl
  · skip
    exact am_ri (S := sZ_bytesOf) (by unfold rZ_bytesOf; simp only [if_neg h1]; try rfl) rfl rfl rfl
end
section
/-! walks by program: the class's methods with state, without loops -/
theorem lt_i {x y : Int32} : x < y ↔ x.toInt < y.toInt := Int32.lt_iff_toInt_lt
theorem le_i {x y : Int32} : x ≤ y ↔ x.toInt ≤ y.toInt := Int32.le_iff_toInt_le
theorem vp_lit {x : Int32} {N : Nat} (h : (decide (x < 0) || Nat.ble N x.toNatClampNeg) = false) : vp_in x N := by
  simp only [Bool.or_eq_false_iff, decide_eq_false_iff_not] at h
  rintro (h1 | h1)
  · exact h.1 h1
  · have := Nat.ble_eq.mpr h1
    rw [h.2] at this
    cases this
theorem vp_of {x M : Int32} {N : Nat} (h0 : ¬ x < 0) (h1 : ¬ M ≤ x) (hM : M.toInt = N) : vp_in x N := by
  rw [vp_in_iff]
  rw [lt_i] at h0
  rw [le_i] at h1
  have : (0 : Int32).toInt = 0 := rfl
  omega
theorem vp_oft {x M : Int32} {N : Nat} (h0 : ¬ x < 0) (h1 : x < M) (hM : M.toInt = N) : vp_in x N := by
  rw [vp_in_iff]
  rw [lt_i] at h0 h1
  have : (0 : Int32).toInt = 0 := rfl
  omega
theorem vp_ofp {x M : Int32} {N : Nat} (h0 : ¬ x ≤ 0) (h1 : ¬ M ≤ x) (hM : M.toInt = N) : vp_in x N := by
  rw [vp_in_iff]
  rw [le_i] at h0 h1
  have : (0 : Int32).toInt = 0 := rfl
  omega
theorem vp_ofl {x M K : Int32} {N : Nat} (h0 : ¬ x < K) (hK : 0 ≤ K.toInt) (h1 : ¬ M ≤ x) (hM : M.toInt = N) : vp_in x N := by
  rw [vp_in_iff]
  rw [lt_i] at h0
  rw [le_i] at h1
  omega
theorem in_has {n c : Int32} (h : ¬ rP_has n c = 0) : vp_in n 20 := by
  unfold rP_has at h
  split at h
  · exact absurd rfl h
  · split at h
    · exact absurd rfl h
    · split at h
      · exact absurd rfl h
      · exact vp_of (M := 20) (by assumption) (by assumption) rfl
theorem within_i {x l h : Int32} : rX_within x l h = 0 ↔ ¬ (l.toInt ≤ x.toInt ∧ x.toInt ≤ h.toInt) := by
  unfold rX_within
  simp only [lt_i]
  split
  · simp; omega
  · split
    · simp; omega
    · simp; omega
theorem in_addr {t c : Int32} (h : ¬ rX_within t 0 (if (20 : Int32) < c then (20 : Int32) else c) = 0) : vp_in t 21 := by
  rw [within_i, Decidable.not_not] at h
  rw [vp_in_iff]
  have h0 : (0 : Int32).toInt = 0 := rfl
  have h20 : (20 : Int32).toInt = 20 := rfl
  split at h
  · omega
  · rename_i hc
    rw [lt_i] at hc
    omega
theorem div_i (x y : Int32) (h : ¬ y.toInt = -1) : (x / y).toInt = x.toInt.tdiv y.toInt := by
  rw [Int32.toInt_div_of_ne_right]
  intro hy
  apply h
  rw [hy]; rfl
theorem in_div {x : Int32} (h0 : ¬ x < 0) (h1 : ¬ (64 : Int32) ≤ x) : vp_in (x / 4) 16 := by
  rw [vp_in_iff, div_i x 4 (by decide)]
  rw [lt_i] at h0
  rw [le_i] at h1
  have e0 : (0 : Int32).toInt = 0 := rfl
  have e1 : (64 : Int32).toInt = 64 := rfl
  have e2 : (4 : Int32).toInt = 4 := rfl
  rw [e2]
  rw [Int.tdiv_eq_ediv_of_nonneg (by omega)]
  omega
noncomputable def rP_kindAt_w (i : Nat → Int32) (a : Nat → Nat → Int32) (p : Int32) : Int32 := if (rP_has p (i 1)) = (0 : Int32) then (-1 : Int32) else ((a 0) (Int32.toNatClampNeg p))
set_option maxHeartbeats 4000000 in
set_option maxRecDepth 100000 in
theorem eP_kindAt_w (i : Nat → Int32) (a : Nat → Nat → Int32) (p : Int32) (tl : List am_Cl) : am_Ev sP_kindAt [.ref 1, .int p] (wX i a tl) (some (.int (rP_kindAt_w i a p))) (wX i a tl) := by
  refine am_Ev_of cwP_kindAt rfl rfl rfl (am_wp_T gdP_kindAt 400 ?_)
  refine am_call (eP_has p (i 1) _) ?_
  refine am_split (fun h1 => ?_) (fun h1 => ?_)
  · skip
    exact am_ri (S := sP_kindAt) (by unfold rP_kindAt_w; simp only [if_pos h1]; try rfl) rfl rfl rfl
  · skip
    refine And.intro (by exact in_has (by assumption)) ?_
    exact am_ri (S := sP_kindAt) (by unfold rP_kindAt_w; simp only [if_neg h1]; try rfl) rfl rfl rfl
noncomputable def rP_firstAt_w (i : Nat → Int32) (a : Nat → Nat → Int32) (p : Int32) : Int32 := if (rP_has p (i 1)) = (0 : Int32) then (0 : Int32) else ((a 1) (Int32.toNatClampNeg p))
set_option maxHeartbeats 4000000 in
set_option maxRecDepth 100000 in
theorem eP_firstAt_w (i : Nat → Int32) (a : Nat → Nat → Int32) (p : Int32) (tl : List am_Cl) : am_Ev sP_firstAt [.ref 1, .int p] (wX i a tl) (some (.int (rP_firstAt_w i a p))) (wX i a tl) := by
  refine am_Ev_of cwP_firstAt rfl rfl rfl (am_wp_T gdP_firstAt 400 ?_)
  refine am_call (eP_has p (i 1) _) ?_
  refine am_split (fun h1 => ?_) (fun h1 => ?_)
  · skip
    exact am_ri (S := sP_firstAt) (by unfold rP_firstAt_w; simp only [if_pos h1]; try rfl) rfl rfl rfl
  · skip
    refine And.intro (by exact in_has (by assumption)) ?_
    exact am_ri (S := sP_firstAt) (by unfold rP_firstAt_w; simp only [if_neg h1]; try rfl) rfl rfl rfl
noncomputable def rP_secondAt_w (i : Nat → Int32) (a : Nat → Nat → Int32) (p : Int32) : Int32 := if (rP_has p (i 1)) = (0 : Int32) then (0 : Int32) else ((a 2) (Int32.toNatClampNeg p))
set_option maxHeartbeats 4000000 in
set_option maxRecDepth 100000 in
theorem eP_secondAt_w (i : Nat → Int32) (a : Nat → Nat → Int32) (p : Int32) (tl : List am_Cl) : am_Ev sP_secondAt [.ref 1, .int p] (wX i a tl) (some (.int (rP_secondAt_w i a p))) (wX i a tl) := by
  refine am_Ev_of cwP_secondAt rfl rfl rfl (am_wp_T gdP_secondAt 400 ?_)
  refine am_call (eP_has p (i 1) _) ?_
  refine am_split (fun h1 => ?_) (fun h1 => ?_)
  · skip
    exact am_ri (S := sP_secondAt) (by unfold rP_secondAt_w; simp only [if_pos h1]; try rfl) rfl rfl rfl
  · skip
    refine And.intro (by exact in_has (by assumption)) ?_
    exact am_ri (S := sP_secondAt) (by unfold rP_secondAt_w; simp only [if_neg h1]; try rfl) rfl rfl rfl
noncomputable def rP_thirdAt_w (i : Nat → Int32) (a : Nat → Nat → Int32) (p : Int32) : Int32 := if (rP_has p (i 1)) = (0 : Int32) then (0 : Int32) else ((a 3) (Int32.toNatClampNeg p))
set_option maxHeartbeats 4000000 in
set_option maxRecDepth 100000 in
theorem eP_thirdAt_w (i : Nat → Int32) (a : Nat → Nat → Int32) (p : Int32) (tl : List am_Cl) : am_Ev sP_thirdAt [.ref 1, .int p] (wX i a tl) (some (.int (rP_thirdAt_w i a p))) (wX i a tl) := by
  refine am_Ev_of cwP_thirdAt rfl rfl rfl (am_wp_T gdP_thirdAt 400 ?_)
  refine am_call (eP_has p (i 1) _) ?_
  refine am_split (fun h1 => ?_) (fun h1 => ?_)
  · skip
    exact am_ri (S := sP_thirdAt) (by unfold rP_thirdAt_w; simp only [if_pos h1]; try rfl) rfl rfl rfl
  · skip
    refine And.intro (by exact in_has (by assumption)) ?_
    exact am_ri (S := sP_thirdAt) (by unfold rP_thirdAt_w; simp only [if_neg h1]; try rfl) rfl rfl rfl
noncomputable def rP_startAt_w (i : Nat → Int32) (a : Nat → Nat → Int32) (p : Int32) : Int32 := if (rP_has p (i 1)) = (0 : Int32) then (-1 : Int32) else ((a 5) (Int32.toNatClampNeg p))
set_option maxHeartbeats 4000000 in
set_option maxRecDepth 100000 in
theorem eP_startAt_w (i : Nat → Int32) (a : Nat → Nat → Int32) (p : Int32) (tl : List am_Cl) : am_Ev sP_startAt [.ref 1, .int p] (wX i a tl) (some (.int (rP_startAt_w i a p))) (wX i a tl) := by
  refine am_Ev_of cwP_startAt rfl rfl rfl (am_wp_T gdP_startAt 400 ?_)
  refine am_call (eP_has p (i 1) _) ?_
  refine am_split (fun h1 => ?_) (fun h1 => ?_)
  · skip
    exact am_ri (S := sP_startAt) (by unfold rP_startAt_w; simp only [if_pos h1]; try rfl) rfl rfl rfl
  · skip
    refine And.intro (by exact in_has (by assumption)) ?_
    exact am_ri (S := sP_startAt) (by unfold rP_startAt_w; simp only [if_neg h1]; try rfl) rfl rfl rfl
noncomputable def rP_addressOf_w (i : Nat → Int32) (a : Nat → Nat → Int32) (p : Int32) : Int32 := if (rX_within p (0 : Int32) (if (20 : Int32) < (i 1) then (20 : Int32) else (i 1))) = (0 : Int32) then (-1 : Int32) else ((a 4) (Int32.toNatClampNeg p))
set_option maxHeartbeats 4000000 in
set_option maxRecDepth 100000 in
theorem eP_addressOf_w (i : Nat → Int32) (a : Nat → Nat → Int32) (p : Int32) (tl : List am_Cl) : am_Ev sP_addressOf [.ref 1, .int p] (wX i a tl) (some (.int (rP_addressOf_w i a p))) (wX i a tl) := by
  refine am_Ev_of cwP_addressOf rfl rfl rfl (am_wp_T gdP_addressOf 400 ?_)
  refine am_call (eX_within p (0 : Int32) (if (20 : Int32) < (i 1) then (20 : Int32) else (i 1)) _) ?_
  refine am_split (fun h1 => ?_) (fun h1 => ?_)
  · skip
    exact am_ri (S := sP_addressOf) (by unfold rP_addressOf_w; simp only [if_pos h1]; try rfl) rfl rfl rfl
  · skip
    refine And.intro (by exact in_addr (by assumption)) ?_
    exact am_ri (S := sP_addressOf) (by unfold rP_addressOf_w; simp only [if_neg h1]; try rfl) rfl rfl rfl
noncomputable def rP_kindAt_b (i : Nat → Int32) (a : Nat → Nat → Int32) (p : Int32) : Int32 := if (rP_has p (i 3)) = (0 : Int32) then (-1 : Int32) else ((a 6) (Int32.toNatClampNeg p))
set_option maxHeartbeats 4000000 in
set_option maxRecDepth 100000 in
theorem eP_kindAt_b (i : Nat → Int32) (a : Nat → Nat → Int32) (p : Int32) (tl : List am_Cl) : am_Ev sP_kindAt [.ref 8, .int p] (wX i a tl) (some (.int (rP_kindAt_b i a p))) (wX i a tl) := by
  refine am_Ev_of cwP_kindAt rfl rfl rfl (am_wp_T gdP_kindAt 400 ?_)
  refine am_call (eP_has p (i 3) _) ?_
  refine am_split (fun h1 => ?_) (fun h1 => ?_)
  · skip
    exact am_ri (S := sP_kindAt) (by unfold rP_kindAt_b; simp only [if_pos h1]; try rfl) rfl rfl rfl
  · skip
    refine And.intro (by exact in_has (by assumption)) ?_
    exact am_ri (S := sP_kindAt) (by unfold rP_kindAt_b; simp only [if_neg h1]; try rfl) rfl rfl rfl
noncomputable def rP_firstAt_b (i : Nat → Int32) (a : Nat → Nat → Int32) (p : Int32) : Int32 := if (rP_has p (i 3)) = (0 : Int32) then (0 : Int32) else ((a 7) (Int32.toNatClampNeg p))
set_option maxHeartbeats 4000000 in
set_option maxRecDepth 100000 in
theorem eP_firstAt_b (i : Nat → Int32) (a : Nat → Nat → Int32) (p : Int32) (tl : List am_Cl) : am_Ev sP_firstAt [.ref 8, .int p] (wX i a tl) (some (.int (rP_firstAt_b i a p))) (wX i a tl) := by
  refine am_Ev_of cwP_firstAt rfl rfl rfl (am_wp_T gdP_firstAt 400 ?_)
  refine am_call (eP_has p (i 3) _) ?_
  refine am_split (fun h1 => ?_) (fun h1 => ?_)
  · skip
    exact am_ri (S := sP_firstAt) (by unfold rP_firstAt_b; simp only [if_pos h1]; try rfl) rfl rfl rfl
  · skip
    refine And.intro (by exact in_has (by assumption)) ?_
    exact am_ri (S := sP_firstAt) (by unfold rP_firstAt_b; simp only [if_neg h1]; try rfl) rfl rfl rfl
noncomputable def rP_secondAt_b (i : Nat → Int32) (a : Nat → Nat → Int32) (p : Int32) : Int32 := if (rP_has p (i 3)) = (0 : Int32) then (0 : Int32) else ((a 8) (Int32.toNatClampNeg p))
set_option maxHeartbeats 4000000 in
set_option maxRecDepth 100000 in
theorem eP_secondAt_b (i : Nat → Int32) (a : Nat → Nat → Int32) (p : Int32) (tl : List am_Cl) : am_Ev sP_secondAt [.ref 8, .int p] (wX i a tl) (some (.int (rP_secondAt_b i a p))) (wX i a tl) := by
  refine am_Ev_of cwP_secondAt rfl rfl rfl (am_wp_T gdP_secondAt 400 ?_)
  refine am_call (eP_has p (i 3) _) ?_
  refine am_split (fun h1 => ?_) (fun h1 => ?_)
  · skip
    exact am_ri (S := sP_secondAt) (by unfold rP_secondAt_b; simp only [if_pos h1]; try rfl) rfl rfl rfl
  · skip
    refine And.intro (by exact in_has (by assumption)) ?_
    exact am_ri (S := sP_secondAt) (by unfold rP_secondAt_b; simp only [if_neg h1]; try rfl) rfl rfl rfl
noncomputable def rP_thirdAt_b (i : Nat → Int32) (a : Nat → Nat → Int32) (p : Int32) : Int32 := if (rP_has p (i 3)) = (0 : Int32) then (0 : Int32) else ((a 9) (Int32.toNatClampNeg p))
set_option maxHeartbeats 4000000 in
set_option maxRecDepth 100000 in
theorem eP_thirdAt_b (i : Nat → Int32) (a : Nat → Nat → Int32) (p : Int32) (tl : List am_Cl) : am_Ev sP_thirdAt [.ref 8, .int p] (wX i a tl) (some (.int (rP_thirdAt_b i a p))) (wX i a tl) := by
  refine am_Ev_of cwP_thirdAt rfl rfl rfl (am_wp_T gdP_thirdAt 400 ?_)
  refine am_call (eP_has p (i 3) _) ?_
  refine am_split (fun h1 => ?_) (fun h1 => ?_)
  · skip
    exact am_ri (S := sP_thirdAt) (by unfold rP_thirdAt_b; simp only [if_pos h1]; try rfl) rfl rfl rfl
  · skip
    refine And.intro (by exact in_has (by assumption)) ?_
    exact am_ri (S := sP_thirdAt) (by unfold rP_thirdAt_b; simp only [if_neg h1]; try rfl) rfl rfl rfl
noncomputable def rP_startAt_b (i : Nat → Int32) (a : Nat → Nat → Int32) (p : Int32) : Int32 := if (rP_has p (i 3)) = (0 : Int32) then (-1 : Int32) else ((a 11) (Int32.toNatClampNeg p))
set_option maxHeartbeats 4000000 in
set_option maxRecDepth 100000 in
theorem eP_startAt_b (i : Nat → Int32) (a : Nat → Nat → Int32) (p : Int32) (tl : List am_Cl) : am_Ev sP_startAt [.ref 8, .int p] (wX i a tl) (some (.int (rP_startAt_b i a p))) (wX i a tl) := by
  refine am_Ev_of cwP_startAt rfl rfl rfl (am_wp_T gdP_startAt 400 ?_)
  refine am_call (eP_has p (i 3) _) ?_
  refine am_split (fun h1 => ?_) (fun h1 => ?_)
  · skip
    exact am_ri (S := sP_startAt) (by unfold rP_startAt_b; simp only [if_pos h1]; try rfl) rfl rfl rfl
  · skip
    refine And.intro (by exact in_has (by assumption)) ?_
    exact am_ri (S := sP_startAt) (by unfold rP_startAt_b; simp only [if_neg h1]; try rfl) rfl rfl rfl
noncomputable def rP_addressOf_b (i : Nat → Int32) (a : Nat → Nat → Int32) (p : Int32) : Int32 := if (rX_within p (0 : Int32) (if (20 : Int32) < (i 3) then (20 : Int32) else (i 3))) = (0 : Int32) then (-1 : Int32) else ((a 10) (Int32.toNatClampNeg p))
set_option maxHeartbeats 4000000 in
set_option maxRecDepth 100000 in
theorem eP_addressOf_b (i : Nat → Int32) (a : Nat → Nat → Int32) (p : Int32) (tl : List am_Cl) : am_Ev sP_addressOf [.ref 8, .int p] (wX i a tl) (some (.int (rP_addressOf_b i a p))) (wX i a tl) := by
  refine am_Ev_of cwP_addressOf rfl rfl rfl (am_wp_T gdP_addressOf 400 ?_)
  refine am_call (eX_within p (0 : Int32) (if (20 : Int32) < (i 3) then (20 : Int32) else (i 3)) _) ?_
  refine am_split (fun h1 => ?_) (fun h1 => ?_)
  · skip
    exact am_ri (S := sP_addressOf) (by unfold rP_addressOf_b; simp only [if_pos h1]; try rfl) rfl rfl rfl
  · skip
    refine And.intro (by exact in_addr (by assumption)) ?_
    exact am_ri (S := sP_addressOf) (by unfold rP_addressOf_b; simp only [if_neg h1]; try rfl) rfl rfl rfl
noncomputable def rP_targetOf (i : Nat → Int32) (a : Nat → Nat → Int32) (p : Int32) : Int32 := if (rP_kindAt_w i a p) = (8 : Int32) then (rP_thirdAt_w i a p) else if (rP_kindAt_w i a p) = (9 : Int32) then (rP_thirdAt_w i a p) else if (rP_kindAt_w i a p) = (10 : Int32) then (rP_thirdAt_w i a p) else if (rP_kindAt_w i a p) = (11 : Int32) then (rP_secondAt_w i a p) else if (rP_kindAt_w i a p) = (12 : Int32) then (0 : Int32) else if (rP_kindAt_w i a p) = (13 : Int32) then (0 : Int32) else if (rP_kindAt_w i a p) = (14 : Int32) then (0 : Int32) else if (rP_kindAt_w i a p) = (15 : Int32) then (0 : Int32) else if (rP_kindAt_w i a p) = (16 : Int32) then (rP_secondAt_w i a p) else (0 : Int32)
set_option maxHeartbeats 4000000 in
set_option maxRecDepth 100000 in
theorem eP_targetOf (i : Nat → Int32) (a : Nat → Nat → Int32) (p : Int32) (tl : List am_Cl) : am_Ev sP_targetOf [.ref 1, .int p] (wX i a tl) (some (.int (rP_targetOf i a p))) (wX i a tl) := by
  refine am_Ev_of cwP_targetOf rfl rfl rfl (am_wp_T gdP_targetOf 400 ?_)
  refine am_call (eP_kindAt_w i a p tl) ?_
  refine am_split (fun h1 => ?_) (fun h1 => ?_)
  · skip
    refine am_call (eP_thirdAt_w i a p tl) ?_
    exact am_ri (S := sP_targetOf) (by unfold rP_targetOf; simp only [if_pos h1]; try rfl) rfl rfl rfl
  · skip
    refine am_split (fun h2 => ?_) (fun h2 => ?_)
    · skip
      refine am_call (eP_thirdAt_w i a p tl) ?_
      exact am_ri (S := sP_targetOf) (by unfold rP_targetOf; simp only [if_neg h1, if_pos h2]; try rfl) rfl rfl rfl
    · skip
      refine am_split (fun h3 => ?_) (fun h3 => ?_)
      · skip
        refine am_call (eP_thirdAt_w i a p tl) ?_
        exact am_ri (S := sP_targetOf) (by unfold rP_targetOf; simp only [if_neg h1, if_neg h2, if_pos h3]; try rfl) rfl rfl rfl
      · skip
        refine am_split (fun h4 => ?_) (fun h4 => ?_)
        · skip
          refine am_call (eP_secondAt_w i a p tl) ?_
          exact am_ri (S := sP_targetOf) (by unfold rP_targetOf; simp only [if_neg h1, if_neg h2, if_neg h3, if_pos h4]; try rfl) rfl rfl rfl
        · skip
          refine am_split (fun h5 => ?_) (fun h5 => ?_)
          · skip
            exact am_ri (S := sP_targetOf) (by unfold rP_targetOf; simp only [if_neg h1, if_neg h2, if_neg h3, if_neg h4, if_pos h5]; try rfl) rfl rfl rfl
          · skip
            refine am_split (fun h6 => ?_) (fun h6 => ?_)
            · skip
              exact am_ri (S := sP_targetOf) (by unfold rP_targetOf; simp only [if_neg h1, if_neg h2, if_neg h3, if_neg h4, if_neg h5, if_pos h6]; try rfl) rfl rfl rfl
            · skip
              refine am_split (fun h7 => ?_) (fun h7 => ?_)
              · skip
                exact am_ri (S := sP_targetOf) (by unfold rP_targetOf; simp only [if_neg h1, if_neg h2, if_neg h3, if_neg h4, if_neg h5, if_neg h6, if_pos h7]; try rfl) rfl rfl rfl
              · skip
                refine am_split (fun h8 => ?_) (fun h8 => ?_)
                · skip
                  exact am_ri (S := sP_targetOf) (by unfold rP_targetOf; simp only [if_neg h1, if_neg h2, if_neg h3, if_neg h4, if_neg h5, if_neg h6, if_neg h7, if_pos h8]; try rfl) rfl rfl rfl
                · skip
                  refine am_split (fun h9 => ?_) (fun h9 => ?_)
                  · skip
                    refine am_call (eP_secondAt_w i a p tl) ?_
                    exact am_ri (S := sP_targetOf) (by unfold rP_targetOf; simp only [if_neg h1, if_neg h2, if_neg h3, if_neg h4, if_neg h5, if_neg h6, if_neg h7, if_neg h8, if_pos h9]; try rfl) rfl rfl rfl
                  · skip
                    exact am_ri (S := sP_targetOf) (by unfold rP_targetOf; simp only [if_neg h1, if_neg h2, if_neg h3, if_neg h4, if_neg h5, if_neg h6, if_neg h7, if_neg h8, if_neg h9]; try rfl) rfl rfl rfl
noncomputable def rP_add (i : Nat → Int32) (a : Nat → Nat → Int32) (p q r s : Int32) : Int32 := if (rP_has (i 1) (20 : Int32)) = (0 : Int32) then (0 : Int32) else (1 : Int32)
noncomputable def iP_add (i : Nat → Int32) (a : Nat → Nat → Int32) (p q r s : Int32) : Nat → Int32 := if (rP_has (i 1) (20 : Int32)) = (0 : Int32) then i else (sI i ((i 1) + (1 : Int32)) 1)
noncomputable def aP_add (i : Nat → Int32) (a : Nat → Nat → Int32) (p q r s : Int32) : Nat → Nat → Int32 := if (rP_has (i 1) (20 : Int32)) = (0 : Int32) then a else (sA (sA (sA (sA a (upd (a 0) (Int32.toNatClampNeg (i 1)) p) 0) (upd (a 1) (Int32.toNatClampNeg (i 1)) q) 1) (upd (a 2) (Int32.toNatClampNeg (i 1)) r) 2) (upd (a 3) (Int32.toNatClampNeg (i 1)) s) 3)
set_option maxHeartbeats 4000000 in
set_option maxRecDepth 100000 in
theorem eP_add (i : Nat → Int32) (a : Nat → Nat → Int32) (p q r s : Int32) (tl : List am_Cl) : am_Ev sP_add [.ref 1, .int p, .int q, .int r, .int s] (wX i a tl) (some (.int (rP_add i a p q r s))) (wX (iP_add i a p q r s) (aP_add i a p q r s) tl) := by
  refine am_Ev_of cwP_add rfl rfl rfl (am_wp_T gdP_add 400 ?_)
  refine am_call (eP_has (i 1) (20 : Int32) _) ?_
  refine am_split (fun h1 => ?_) (fun h1 => ?_)
  · skip
    exact am_ri (S := sP_add) (by unfold rP_add; simp only [if_pos h1]; try rfl) (by unfold iP_add aP_add; simp only [if_pos h1]; try rfl) rfl rfl
  · skip
    refine And.intro (by exact in_has (by assumption)) ?_
    refine And.intro (by exact in_has (by assumption)) ?_
    refine And.intro (by exact in_has (by assumption)) ?_
    refine And.intro (by exact in_has (by assumption)) ?_
    exact am_ri (S := sP_add) (by unfold rP_add; simp only [if_neg h1]; try rfl) (by unfold iP_add aP_add; simp only [if_neg h1]; try rfl) rfl rfl
theorem zoP_add (i : Nat → Int32) (a : Nat → Nat → Int32) (p q r s : Int32) : rP_add i a p q r s = 0 ∨ rP_add i a p q r s = 1 := by
  unfold rP_add
  repeat' (first | with_reducible refine zo_ite ?_ ?_ | with_reducible exact Or.inl rfl | with_reducible exact Or.inr rfl)
noncomputable def rC_has (i : Nat → Int32) (a : Nat → Nat → Int32) (p : Int32) : Int32 := if p < (0 : Int32) then (0 : Int32) else if (i 5) ≤ p then (0 : Int32) else if (256 : Int32) ≤ p then (0 : Int32) else (1 : Int32)
set_option maxHeartbeats 4000000 in
set_option maxRecDepth 100000 in
theorem eC_has (i : Nat → Int32) (a : Nat → Nat → Int32) (p : Int32) (tl : List am_Cl) : am_Ev sC_has [.ref 15, .int p] (wX i a tl) (some (.int (rC_has i a p))) (wX i a tl) := by
  refine am_Ev_of cwC_has rfl rfl rfl (am_wp_T gdC_has 400 ?_)
  refine am_split (fun h1 => ?_) (fun h1 => ?_)
  · skip
    exact am_ri (S := sC_has) (by unfold rC_has; simp only [if_pos h1]; try rfl) rfl rfl rfl
  · skip
    refine am_split (fun h2 => ?_) (fun h2 => ?_)
    · skip
      exact am_ri (S := sC_has) (by unfold rC_has; simp only [if_neg h1, if_pos h2]; try rfl) rfl rfl rfl
    · skip
      refine am_split (fun h3 => ?_) (fun h3 => ?_)
      · skip
        exact am_ri (S := sC_has) (by unfold rC_has; simp only [if_neg h1, if_neg h2, if_pos h3]; try rfl) rfl rfl rfl
      · skip
        exact am_ri (S := sC_has) (by unfold rC_has; simp only [if_neg h1, if_neg h2, if_neg h3]; try rfl) rfl rfl rfl
theorem zoC_has (i : Nat → Int32) (a : Nat → Nat → Int32) (p : Int32) : rC_has i a p = 0 ∨ rC_has i a p = 1 := by
  unfold rC_has
  repeat' (first | with_reducible refine zo_ite ?_ ?_ | with_reducible exact Or.inl rfl | with_reducible exact Or.inr rfl)
theorem in_chas {i : Nat → Int32} {a : Nat → Nat → Int32} {p : Int32} (h : ¬ rC_has i a p = 0) : vp_in p 256 := by
  unfold rC_has at h
  split at h
  · exact absurd rfl h
  · split at h
    · exact absurd rfl h
    · split at h
      · exact absurd rfl h
      · exact vp_of (M := 256) (by assumption) (by assumption) rfl
noncomputable def rC_put (i : Nat → Int32) (a : Nat → Nat → Int32) (p q : Int32) : Int32 := if (rC_has i a p) = (0 : Int32) then (0 : Int32) else if (rX_within q (0 : Int32) (255 : Int32)) = (0 : Int32) then (0 : Int32) else (1 : Int32)
noncomputable def aC_put (i : Nat → Int32) (a : Nat → Nat → Int32) (p q : Int32) : Nat → Nat → Int32 := if (rC_has i a p) = (0 : Int32) then a else if (rX_within q (0 : Int32) (255 : Int32)) = (0 : Int32) then a else (sA a (upd (a 12) (Int32.toNatClampNeg p) q) 12)
set_option maxHeartbeats 4000000 in
set_option maxRecDepth 100000 in
theorem eC_put (i : Nat → Int32) (a : Nat → Nat → Int32) (p q : Int32) (tl : List am_Cl) : am_Ev sC_put [.ref 15, .int p, .int q] (wX i a tl) (some (.int (rC_put i a p q))) (wX i (aC_put i a p q) tl) := by
  refine am_Ev_of cwC_put rfl rfl rfl (am_wp_T gdC_put 400 ?_)
  refine am_call (eC_has i a p tl) ?_
  refine am_split (fun h1 => ?_) (fun h1 => ?_)
  · skip
    exact am_ri (S := sC_put) (by unfold rC_put; simp only [if_pos h1]; try rfl) (by unfold aC_put; simp only [if_pos h1]; try rfl) rfl rfl
  · skip
    refine am_call (eX_within q (0 : Int32) (255 : Int32) _) ?_
    refine am_split (fun h2 => ?_) (fun h2 => ?_)
    · skip
      exact am_ri (S := sC_put) (by unfold rC_put; simp only [if_neg h1, if_pos h2]; try rfl) (by unfold aC_put; simp only [if_neg h1, if_pos h2]; try rfl) rfl rfl
    · skip
      refine And.intro (by exact in_chas (by assumption)) ?_
      exact am_ri (S := sC_put) (by unfold rC_put; simp only [if_neg h1, if_neg h2]; try rfl) (by unfold aC_put; simp only [if_neg h1, if_neg h2]; try rfl) rfl rfl
theorem zoC_put (i : Nat → Int32) (a : Nat → Nat → Int32) (p q : Int32) : rC_put i a p q = 0 ∨ rC_put i a p q = 1 := by
  unfold rC_put
  repeat' (first | with_reducible refine zo_ite ?_ ?_ | with_reducible exact Or.inl rfl | with_reducible exact Or.inr rfl)
noncomputable def rC_byteAt (i : Nat → Int32) (a : Nat → Nat → Int32) (p : Int32) : Int32 := if (rC_has i a p) = (0 : Int32) then (-1 : Int32) else ((a 12) (Int32.toNatClampNeg p))
set_option maxHeartbeats 4000000 in
set_option maxRecDepth 100000 in
theorem eC_byteAt (i : Nat → Int32) (a : Nat → Nat → Int32) (p : Int32) (tl : List am_Cl) : am_Ev sC_byteAt [.ref 15, .int p] (wX i a tl) (some (.int (rC_byteAt i a p))) (wX i a tl) := by
  refine am_Ev_of cwC_byteAt rfl rfl rfl (am_wp_T gdC_byteAt 400 ?_)
  refine am_call (eC_has i a p tl) ?_
  refine am_split (fun h1 => ?_) (fun h1 => ?_)
  · skip
    exact am_ri (S := sC_byteAt) (by unfold rC_byteAt; simp only [if_pos h1]; try rfl) rfl rfl rfl
  · skip
    refine And.intro (by exact in_chas (by assumption)) ?_
    exact am_ri (S := sC_byteAt) (by unfold rC_byteAt; simp only [if_neg h1]; try rfl) rfl rfl rfl
noncomputable def rC_fetch (i : Nat → Int32) (a : Nat → Nat → Int32) (p : Int32) : Int32 := if (rC_has i a p) = (0 : Int32) then (0 : Int32) else if (rC_has i a (p + (1 : Int32))) = (0 : Int32) then (0 : Int32) else if (rF_isLong (((a 12) (Int32.toNatClampNeg p)) ||| (((a 12) (Int32.toNatClampNeg (p + (1 : Int32)))) <<< ((8 : Int32) &&& 31)))) = (0 : Int32) then (((a 12) (Int32.toNatClampNeg p)) ||| (((a 12) (Int32.toNatClampNeg (p + (1 : Int32)))) <<< ((8 : Int32) &&& 31))) else if (rC_has i a (p + (2 : Int32))) = (0 : Int32) then (0 : Int32) else if (rC_has i a (p + (3 : Int32))) = (0 : Int32) then (0 : Int32) else (((((a 12) (Int32.toNatClampNeg p)) ||| (((a 12) (Int32.toNatClampNeg (p + (1 : Int32)))) <<< ((8 : Int32) &&& 31))) ||| (((a 12) (Int32.toNatClampNeg (p + (2 : Int32)))) <<< ((16 : Int32) &&& 31))) ||| (((a 12) (Int32.toNatClampNeg (p + (3 : Int32)))) <<< ((24 : Int32) &&& 31)))
set_option maxHeartbeats 4000000 in
set_option maxRecDepth 100000 in
theorem eC_fetch (i : Nat → Int32) (a : Nat → Nat → Int32) (p : Int32) (tl : List am_Cl) : am_Ev sC_fetch [.ref 15, .int p] (wX i a tl) (some (.int (rC_fetch i a p))) (wX i a tl) := by
  refine am_Ev_of cwC_fetch rfl rfl rfl (am_wp_T gdC_fetch 400 ?_)
  refine am_call (eC_has i a p tl) ?_
  refine am_split (fun h1 => ?_) (fun h1 => ?_)
  · skip
    exact am_ri (S := sC_fetch) (by unfold rC_fetch; simp only [if_pos h1]; try rfl) rfl rfl rfl
  · skip
    refine am_call (eC_has i a (p + (1 : Int32)) tl) ?_
    refine am_split (fun h2 => ?_) (fun h2 => ?_)
    · skip
      exact am_ri (S := sC_fetch) (by unfold rC_fetch; simp only [if_neg h1, if_pos h2]; try rfl) rfl rfl rfl
    · skip
      refine And.intro (by exact in_chas (by assumption)) ?_
      refine And.intro (by exact in_chas (by assumption)) ?_
      refine am_call (eF_isLong (((a 12) (Int32.toNatClampNeg p)) ||| (((a 12) (Int32.toNatClampNeg (p + (1 : Int32)))) <<< ((8 : Int32) &&& 31))) _) ?_
      refine am_split (fun h3 => ?_) (fun h3 => ?_)
      · skip
        exact am_ri (S := sC_fetch) (by unfold rC_fetch; simp only [if_neg h1, if_neg h2, if_pos h3]; try rfl) rfl rfl rfl
      · skip
        refine am_call (eC_has i a (p + (2 : Int32)) tl) ?_
        refine am_split (fun h4 => ?_) (fun h4 => ?_)
        · skip
          exact am_ri (S := sC_fetch) (by unfold rC_fetch; simp only [if_neg h1, if_neg h2, if_neg h3, if_pos h4]; try rfl) rfl rfl rfl
        · skip
          refine am_call (eC_has i a (p + (3 : Int32)) tl) ?_
          refine am_split (fun h5 => ?_) (fun h5 => ?_)
          · skip
            exact am_ri (S := sC_fetch) (by unfold rC_fetch; simp only [if_neg h1, if_neg h2, if_neg h3, if_neg h4, if_pos h5]; try rfl) rfl rfl rfl
          · skip
            refine And.intro (by exact in_chas (by assumption)) ?_
            refine And.intro (by exact in_chas (by assumption)) ?_
            exact am_ri (S := sC_fetch) (by unfold rC_fetch; simp only [if_neg h1, if_neg h2, if_neg h3, if_neg h4, if_neg h5]; try rfl) rfl rfl rfl
noncomputable def rI_add (i : Nat → Int32) (a : Nat → Nat → Int32) (p : Int32) : Int32 := if (i 7) < (0 : Int32) then (0 : Int32) else if (i 7) < (20 : Int32) then (1 : Int32) else (0 : Int32)
noncomputable def iI_add (i : Nat → Int32) (a : Nat → Nat → Int32) (p : Int32) : Nat → Int32 := if (i 7) < (0 : Int32) then i else if (i 7) < (20 : Int32) then (sI i ((i 7) + (1 : Int32)) 7) else i
noncomputable def aI_add (i : Nat → Int32) (a : Nat → Nat → Int32) (p : Int32) : Nat → Nat → Int32 := if (i 7) < (0 : Int32) then a else if (i 7) < (20 : Int32) then (sA a (upd (a 14) (Int32.toNatClampNeg (i 7)) p) 14) else a
set_option maxHeartbeats 4000000 in
set_option maxRecDepth 100000 in
theorem eI_add (i : Nat → Int32) (a : Nat → Nat → Int32) (p : Int32) (tl : List am_Cl) : am_Ev sI_add [.ref 20, .int p] (wX i a tl) (some (.int (rI_add i a p))) (wX (iI_add i a p) (aI_add i a p) tl) := by
  refine am_Ev_of cwI_add rfl rfl rfl (am_wp_T gdI_add 400 ?_)
  refine am_split (fun h1 => ?_) (fun h1 => ?_)
  · skip
    exact am_ri (S := sI_add) (by unfold rI_add; simp only [if_pos h1]; try rfl) (by unfold iI_add aI_add; simp only [if_pos h1]; try rfl) rfl rfl
  · skip
    refine am_split (fun h2 => ?_) (fun h2 => ?_)
    · skip
      refine And.intro (by exact vp_oft (M := 20) (by assumption) (by assumption) rfl) ?_
      exact am_ri (S := sI_add) (by unfold rI_add; simp only [if_neg h1, if_pos h2]; try rfl) (by unfold iI_add aI_add; simp only [if_neg h1, if_pos h2]; try rfl) rfl rfl
    · skip
      exact am_ri (S := sI_add) (by unfold rI_add; simp only [if_neg h1, if_neg h2]; try rfl) (by unfold iI_add aI_add; simp only [if_neg h1, if_neg h2]; try rfl) rfl rfl
theorem zoI_add (i : Nat → Int32) (a : Nat → Nat → Int32) (p : Int32) : rI_add i a p = 0 ∨ rI_add i a p = 1 := by
  unfold rI_add
  repeat' (first | with_reducible refine zo_ite ?_ ?_ | with_reducible exact Or.inl rfl | with_reducible exact Or.inr rfl)
noncomputable def rI_valueAt (i : Nat → Int32) (a : Nat → Nat → Int32) (p : Int32) : Int32 := if p < (0 : Int32) then (-1 : Int32) else if (i 7) ≤ p then (-1 : Int32) else if (20 : Int32) ≤ p then (-1 : Int32) else ((a 14) (Int32.toNatClampNeg p))
set_option maxHeartbeats 4000000 in
set_option maxRecDepth 100000 in
theorem eI_valueAt (i : Nat → Int32) (a : Nat → Nat → Int32) (p : Int32) (tl : List am_Cl) : am_Ev sI_valueAt [.ref 20, .int p] (wX i a tl) (some (.int (rI_valueAt i a p))) (wX i a tl) := by
  refine am_Ev_of cwI_valueAt rfl rfl rfl (am_wp_T gdI_valueAt 400 ?_)
  refine am_split (fun h1 => ?_) (fun h1 => ?_)
  · skip
    exact am_ri (S := sI_valueAt) (by unfold rI_valueAt; simp only [if_pos h1]; try rfl) rfl rfl rfl
  · skip
    refine am_split (fun h2 => ?_) (fun h2 => ?_)
    · skip
      exact am_ri (S := sI_valueAt) (by unfold rI_valueAt; simp only [if_neg h1, if_pos h2]; try rfl) rfl rfl rfl
    · skip
      refine am_split (fun h3 => ?_) (fun h3 => ?_)
      · skip
        exact am_ri (S := sI_valueAt) (by unfold rI_valueAt; simp only [if_neg h1, if_neg h2, if_pos h3]; try rfl) rfl rfl rfl
      · skip
        refine And.intro (by exact vp_of (M := 20) (by assumption) (by assumption) rfl) ?_
        exact am_ri (S := sI_valueAt) (by unfold rI_valueAt; simp only [if_neg h1, if_neg h2, if_neg h3]; try rfl) rfl rfl rfl
noncomputable def rU_get_M (i : Nat → Int32) (a : Nat → Nat → Int32) (p : Int32) : Int32 := if p < (0 : Int32) then (0 : Int32) else if (32 : Int32) ≤ p then (0 : Int32) else ((a 15) (Int32.toNatClampNeg p))
set_option maxHeartbeats 4000000 in
set_option maxRecDepth 100000 in
theorem eU_get_M (i : Nat → Int32) (a : Nat → Nat → Int32) (p : Int32) (tl : List am_Cl) : am_Ev sU_get [.ref 22, .int p] (wX i a tl) (some (.int (rU_get_M i a p))) (wX i a tl) := by
  refine am_Ev_of cwU_get rfl rfl rfl (am_wp_T gdU_get 400 ?_)
  refine am_split (fun h1 => ?_) (fun h1 => ?_)
  · skip
    exact am_ri (S := sU_get) (by unfold rU_get_M; simp only [if_pos h1]; try rfl) rfl rfl rfl
  · skip
    refine am_split (fun h2 => ?_) (fun h2 => ?_)
    · skip
      exact am_ri (S := sU_get) (by unfold rU_get_M; simp only [if_neg h1, if_pos h2]; try rfl) rfl rfl rfl
    · skip
      refine And.intro (by exact vp_of (M := 32) (by assumption) (by assumption) rfl) ?_
      exact am_ri (S := sU_get) (by unfold rU_get_M; simp only [if_neg h1, if_neg h2]; try rfl) rfl rfl rfl
noncomputable def aU_set_M (i : Nat → Int32) (a : Nat → Nat → Int32) (p q : Int32) : Nat → Nat → Int32 := if p ≤ (0 : Int32) then a else if (32 : Int32) ≤ p then a else (sA a (upd (a 15) (Int32.toNatClampNeg p) q) 15)
set_option maxHeartbeats 4000000 in
set_option maxRecDepth 100000 in
theorem eU_set_M (i : Nat → Int32) (a : Nat → Nat → Int32) (p q : Int32) (tl : List am_Cl) : am_Ev sU_set [.ref 22, .int p, .int q] (wX i a tl) none (wX i (aU_set_M i a p q) tl) := by
  refine am_Ev_of cwU_set rfl rfl rfl (am_wp_T gdU_set 400 ?_)
  refine am_split (fun h1 => ?_) (fun h1 => ?_)
  · skip
    exact am_rv (S := sU_set) (by unfold aU_set_M; simp only [if_pos h1]; try rfl) rfl
  · skip
    refine am_split (fun h2 => ?_) (fun h2 => ?_)
    · skip
      exact am_rv (S := sU_set) (by unfold aU_set_M; simp only [if_neg h1, if_pos h2]; try rfl) rfl
    · skip
      refine And.intro (by exact vp_ofp (M := 32) (by assumption) (by assumption) rfl) ?_
      exact am_rv (S := sU_set) (by unfold aU_set_M; simp only [if_neg h1, if_neg h2]; try rfl) rfl
noncomputable def rU_wordAt_M (i : Nat → Int32) (a : Nat → Nat → Int32) (p : Int32) : Int32 := if p < (0 : Int32) then (0 : Int32) else if (16 : Int32) ≤ p then (0 : Int32) else ((a 16) (Int32.toNatClampNeg p))
set_option maxHeartbeats 4000000 in
set_option maxRecDepth 100000 in
theorem eU_wordAt_M (i : Nat → Int32) (a : Nat → Nat → Int32) (p : Int32) (tl : List am_Cl) : am_Ev sU_wordAt [.ref 22, .int p] (wX i a tl) (some (.int (rU_wordAt_M i a p))) (wX i a tl) := by
  refine am_Ev_of cwU_wordAt rfl rfl rfl (am_wp_T gdU_wordAt 400 ?_)
  refine am_split (fun h1 => ?_) (fun h1 => ?_)
  · skip
    exact am_ri (S := sU_wordAt) (by unfold rU_wordAt_M; simp only [if_pos h1]; try rfl) rfl rfl rfl
  · skip
    refine am_split (fun h2 => ?_) (fun h2 => ?_)
    · skip
      exact am_ri (S := sU_wordAt) (by unfold rU_wordAt_M; simp only [if_neg h1, if_pos h2]; try rfl) rfl rfl rfl
    · skip
      refine And.intro (by exact vp_of (M := 16) (by assumption) (by assumption) rfl) ?_
      exact am_ri (S := sU_wordAt) (by unfold rU_wordAt_M; simp only [if_neg h1, if_neg h2]; try rfl) rfl rfl rfl
noncomputable def rU_outputAt_M (i : Nat → Int32) (a : Nat → Nat → Int32) (p : Int32) : Int32 := if p < (0 : Int32) then (0 : Int32) else if (i 9) ≤ p then (0 : Int32) else if (40 : Int32) ≤ p then (0 : Int32) else ((a 17) (Int32.toNatClampNeg p))
set_option maxHeartbeats 4000000 in
set_option maxRecDepth 100000 in
theorem eU_outputAt_M (i : Nat → Int32) (a : Nat → Nat → Int32) (p : Int32) (tl : List am_Cl) : am_Ev sU_outputAt [.ref 22, .int p] (wX i a tl) (some (.int (rU_outputAt_M i a p))) (wX i a tl) := by
  refine am_Ev_of cwU_outputAt rfl rfl rfl (am_wp_T gdU_outputAt 400 ?_)
  refine am_split (fun h1 => ?_) (fun h1 => ?_)
  · skip
    exact am_ri (S := sU_outputAt) (by unfold rU_outputAt_M; simp only [if_pos h1]; try rfl) rfl rfl rfl
  · skip
    refine am_split (fun h2 => ?_) (fun h2 => ?_)
    · skip
      exact am_ri (S := sU_outputAt) (by unfold rU_outputAt_M; simp only [if_neg h1, if_pos h2]; try rfl) rfl rfl rfl
    · skip
      refine am_split (fun h3 => ?_) (fun h3 => ?_)
      · skip
        exact am_ri (S := sU_outputAt) (by unfold rU_outputAt_M; simp only [if_neg h1, if_neg h2, if_pos h3]; try rfl) rfl rfl rfl
      · skip
        refine And.intro (by exact vp_of (M := 40) (by assumption) (by assumption) rfl) ?_
        exact am_ri (S := sU_outputAt) (by unfold rU_outputAt_M; simp only [if_neg h1, if_neg h2, if_neg h3]; try rfl) rfl rfl rfl
noncomputable def iU_readInput_M (i : Nat → Int32) (a : Nat → Nat → Int32) : Nat → Int32 := if (20 : Int32) ≤ (i 8) then i else (sI i ((i 8) + (1 : Int32)) 8)
noncomputable def aU_readInput_M (i : Nat → Int32) (a : Nat → Nat → Int32) : Nat → Nat → Int32 := if (20 : Int32) ≤ (i 8) then (aU_set_M i a (10 : Int32) (rI_valueAt i a (i 8))) else (aU_set_M i a (10 : Int32) (rI_valueAt i a (i 8)))
set_option maxHeartbeats 4000000 in
set_option maxRecDepth 100000 in
theorem eU_readInput_M (i : Nat → Int32) (a : Nat → Nat → Int32) (tl : List am_Cl) : am_Ev sU_readInput [.ref 22] (wX i a tl) none (wX (iU_readInput_M i a ) (aU_readInput_M i a ) tl) := by
  refine am_Ev_of cwU_readInput rfl rfl rfl (am_wp_T gdU_readInput 400 ?_)
  refine am_call (eI_valueAt i a (i 8) tl) ?_
  refine am_call (eU_set_M i a (10 : Int32) (rI_valueAt i a (i 8)) tl) ?_
  refine am_split (fun h1 => ?_) (fun h1 => ?_)
  · skip
    exact am_rv (S := sU_readInput) (by unfold iU_readInput_M aU_readInput_M; simp only [if_pos h1]; try rfl) rfl
  · skip
    exact am_rv (S := sU_readInput) (by unfold iU_readInput_M aU_readInput_M; simp only [if_neg h1]; try rfl) rfl
noncomputable def iU_writeOutput_M (i : Nat → Int32) (a : Nat → Nat → Int32) : Nat → Int32 := if (i 9) < (0 : Int32) then i else if (40 : Int32) ≤ (i 9) then i else (sI i ((i 9) + (1 : Int32)) 9)
noncomputable def aU_writeOutput_M (i : Nat → Int32) (a : Nat → Nat → Int32) : Nat → Nat → Int32 := if (i 9) < (0 : Int32) then a else if (40 : Int32) ≤ (i 9) then a else (sA a (upd (a 17) (Int32.toNatClampNeg (i 9)) (rU_get_M i a (10 : Int32))) 17)
set_option maxHeartbeats 4000000 in
set_option maxRecDepth 100000 in
theorem eU_writeOutput_M (i : Nat → Int32) (a : Nat → Nat → Int32) (tl : List am_Cl) : am_Ev sU_writeOutput [.ref 22] (wX i a tl) none (wX (iU_writeOutput_M i a ) (aU_writeOutput_M i a ) tl) := by
  refine am_Ev_of cwU_writeOutput rfl rfl rfl (am_wp_T gdU_writeOutput 400 ?_)
  refine am_split (fun h1 => ?_) (fun h1 => ?_)
  · skip
    exact am_rv (S := sU_writeOutput) (by unfold iU_writeOutput_M aU_writeOutput_M; simp only [if_pos h1]; try rfl) rfl
  · skip
    refine am_split (fun h2 => ?_) (fun h2 => ?_)
    · skip
      exact am_rv (S := sU_writeOutput) (by unfold iU_writeOutput_M aU_writeOutput_M; simp only [if_neg h1, if_pos h2]; try rfl) rfl
    · skip
      refine am_call (eU_get_M i a (10 : Int32) tl) ?_
      refine And.intro (by exact vp_of (M := 40) (by assumption) (by assumption) rfl) ?_
      exact am_rv (S := sU_writeOutput) (by unfold iU_writeOutput_M aU_writeOutput_M; simp only [if_neg h1, if_neg h2]; try rfl) rfl
noncomputable def rU_branches_M (i : Nat → Int32) (a : Nat → Nat → Int32) (p q r : Int32) : Int32 := if p = (8 : Int32) then if (rU_get_M i a q) = (rU_get_M i a r) then (1 : Int32) else (0 : Int32) else if p = (9 : Int32) then if (rU_get_M i a q) = (rU_get_M i a r) then (0 : Int32) else (1 : Int32) else if (rU_get_M i a r) ≤ (rU_get_M i a q) then (0 : Int32) else (1 : Int32)
set_option maxHeartbeats 4000000 in
set_option maxRecDepth 100000 in
theorem eU_branches_M (i : Nat → Int32) (a : Nat → Nat → Int32) (p q r : Int32) (tl : List am_Cl) : am_Ev sU_branches [.ref 22, .int p, .int q, .int r] (wX i a tl) (some (.int (rU_branches_M i a p q r))) (wX i a tl) := by
  refine am_Ev_of cwU_branches rfl rfl rfl (am_wp_T gdU_branches 400 ?_)
  refine am_split (fun h1 => ?_) (fun h1 => ?_)
  · skip
    refine am_call (eU_get_M i a q tl) ?_
    refine am_call (eU_get_M i a r tl) ?_
    refine am_split (fun h2 => ?_) (fun h2 => ?_)
    · skip
      exact am_ri (S := sU_branches) (by unfold rU_branches_M; simp only [if_pos h1, if_pos h2]; try rfl) rfl rfl rfl
    · skip
      exact am_ri (S := sU_branches) (by unfold rU_branches_M; simp only [if_pos h1, if_neg h2]; try rfl) rfl rfl rfl
  · skip
    refine am_split (fun h3 => ?_) (fun h3 => ?_)
    · skip
      refine am_call (eU_get_M i a q tl) ?_
      refine am_call (eU_get_M i a r tl) ?_
      refine am_split (fun h4 => ?_) (fun h4 => ?_)
      · skip
        exact am_ri (S := sU_branches) (by unfold rU_branches_M; simp only [if_neg h1, if_pos h3, if_pos h4]; try rfl) rfl rfl rfl
      · skip
        exact am_ri (S := sU_branches) (by unfold rU_branches_M; simp only [if_neg h1, if_pos h3, if_neg h4]; try rfl) rfl rfl rfl
    · skip
      refine am_call (eU_get_M i a q tl) ?_
      refine am_call (eU_get_M i a r tl) ?_
      refine am_split (fun h5 => ?_) (fun h5 => ?_)
      · skip
        exact am_ri (S := sU_branches) (by unfold rU_branches_M; simp only [if_neg h1, if_neg h3, if_pos h5]; try rfl) rfl rfl rfl
      · skip
        exact am_ri (S := sU_branches) (by unfold rU_branches_M; simp only [if_neg h1, if_neg h3, if_neg h5]; try rfl) rfl rfl rfl
theorem zoU_branches_M (i : Nat → Int32) (a : Nat → Nat → Int32) (p q r : Int32) : rU_branches_M i a p q r = 0 ∨ rU_branches_M i a p q r = 1 := by
  unfold rU_branches_M
  repeat' (first | with_reducible refine zo_ite ?_ ?_ | with_reducible exact Or.inl rfl | with_reducible exact Or.inr rfl)
noncomputable def aU_compute_M (i : Nat → Int32) (a : Nat → Nat → Int32) (p q r s : Int32) : Nat → Nat → Int32 := if p = (0 : Int32) then (aU_set_M i a q ((rU_get_M i a r) + (rU_get_M i a s))) else if p = (1 : Int32) then (aU_set_M i a q ((rU_get_M i a r) - (rU_get_M i a s))) else if p = (2 : Int32) then (aU_set_M i a q ((rU_get_M i a r) &&& (rU_get_M i a s))) else if p = (3 : Int32) then (aU_set_M i a q ((rU_get_M i a r) ||| (rU_get_M i a s))) else if p = (4 : Int32) then (aU_set_M i a q ((rU_get_M i a r) + s)) else if p = (5 : Int32) then (aU_set_M i a q (r <<< ((12 : Int32) &&& 31))) else if p = (6 : Int32) then a else if p = (7 : Int32) then a else if p = (8 : Int32) then a else if p = (9 : Int32) then a else if p = (10 : Int32) then a else if p = (11 : Int32) then a else if p = (12 : Int32) then a else if p = (13 : Int32) then (aU_set_M i a q ((rU_get_M i a q) + r)) else if p = (14 : Int32) then (aU_set_M i a q (rU_get_M i a r)) else a
set_option maxHeartbeats 4000000 in
set_option maxRecDepth 100000 in
theorem eU_compute_M (i : Nat → Int32) (a : Nat → Nat → Int32) (p q r s : Int32) (tl : List am_Cl) : am_Ev sU_compute [.ref 22, .int p, .int q, .int r, .int s] (wX i a tl) none (wX i (aU_compute_M i a p q r s) tl) := by
  refine am_Ev_of cwU_compute rfl rfl rfl (am_wp_T gdU_compute 400 ?_)
  refine am_split (fun h1 => ?_) (fun h1 => ?_)
  · skip
    refine am_call (eU_get_M i a r tl) ?_
    refine am_call (eU_get_M i a s tl) ?_
    refine am_call (eU_set_M i a q ((rU_get_M i a r) + (rU_get_M i a s)) tl) ?_
    exact am_rv (S := sU_compute) (by unfold aU_compute_M; simp only [if_pos h1]; try rfl) rfl
  · skip
    refine am_split (fun h2 => ?_) (fun h2 => ?_)
    · skip
      refine am_call (eU_get_M i a r tl) ?_
      refine am_call (eU_get_M i a s tl) ?_
      refine am_call (eU_set_M i a q ((rU_get_M i a r) - (rU_get_M i a s)) tl) ?_
      exact am_rv (S := sU_compute) (by unfold aU_compute_M; simp only [if_neg h1, if_pos h2]; try rfl) rfl
    · skip
      refine am_split (fun h3 => ?_) (fun h3 => ?_)
      · skip
        refine am_call (eU_get_M i a r tl) ?_
        refine am_call (eU_get_M i a s tl) ?_
        refine am_call (eU_set_M i a q ((rU_get_M i a r) &&& (rU_get_M i a s)) tl) ?_
        exact am_rv (S := sU_compute) (by unfold aU_compute_M; simp only [if_neg h1, if_neg h2, if_pos h3]; try rfl) rfl
      · skip
        refine am_split (fun h4 => ?_) (fun h4 => ?_)
        · skip
          refine am_call (eU_get_M i a r tl) ?_
          refine am_call (eU_get_M i a s tl) ?_
          refine am_call (eU_set_M i a q ((rU_get_M i a r) ||| (rU_get_M i a s)) tl) ?_
          exact am_rv (S := sU_compute) (by unfold aU_compute_M; simp only [if_neg h1, if_neg h2, if_neg h3, if_pos h4]; try rfl) rfl
        · skip
          refine am_split (fun h5 => ?_) (fun h5 => ?_)
          · skip
            refine am_call (eU_get_M i a r tl) ?_
            refine am_call (eU_set_M i a q ((rU_get_M i a r) + s) tl) ?_
            exact am_rv (S := sU_compute) (by unfold aU_compute_M; simp only [if_neg h1, if_neg h2, if_neg h3, if_neg h4, if_pos h5]; try rfl) rfl
          · skip
            refine am_split (fun h6 => ?_) (fun h6 => ?_)
            · skip
              refine am_call (eU_set_M i a q (r <<< ((12 : Int32) &&& 31)) tl) ?_
              exact am_rv (S := sU_compute) (by unfold aU_compute_M; simp only [if_neg h1, if_neg h2, if_neg h3, if_neg h4, if_neg h5, if_pos h6]; try rfl) rfl
            · skip
              refine am_split (fun h7 => ?_) (fun h7 => ?_)
              · skip
                exact am_rv (S := sU_compute) (by unfold aU_compute_M; simp only [if_neg h1, if_neg h2, if_neg h3, if_neg h4, if_neg h5, if_neg h6, if_pos h7]; try rfl) rfl
              · skip
                refine am_split (fun h8 => ?_) (fun h8 => ?_)
                · skip
                  exact am_rv (S := sU_compute) (by unfold aU_compute_M; simp only [if_neg h1, if_neg h2, if_neg h3, if_neg h4, if_neg h5, if_neg h6, if_neg h7, if_pos h8]; try rfl) rfl
                · skip
                  refine am_split (fun h9 => ?_) (fun h9 => ?_)
                  · skip
                    exact am_rv (S := sU_compute) (by unfold aU_compute_M; simp only [if_neg h1, if_neg h2, if_neg h3, if_neg h4, if_neg h5, if_neg h6, if_neg h7, if_neg h8, if_pos h9]; try rfl) rfl
                  · skip
                    refine am_split (fun h10 => ?_) (fun h10 => ?_)
                    · skip
                      exact am_rv (S := sU_compute) (by unfold aU_compute_M; simp only [if_neg h1, if_neg h2, if_neg h3, if_neg h4, if_neg h5, if_neg h6, if_neg h7, if_neg h8, if_neg h9, if_pos h10]; try rfl) rfl
                    · skip
                      refine am_split (fun h11 => ?_) (fun h11 => ?_)
                      · skip
                        exact am_rv (S := sU_compute) (by unfold aU_compute_M; simp only [if_neg h1, if_neg h2, if_neg h3, if_neg h4, if_neg h5, if_neg h6, if_neg h7, if_neg h8, if_neg h9, if_neg h10, if_pos h11]; try rfl) rfl
                      · skip
                        refine am_split (fun h12 => ?_) (fun h12 => ?_)
                        · skip
                          exact am_rv (S := sU_compute) (by unfold aU_compute_M; simp only [if_neg h1, if_neg h2, if_neg h3, if_neg h4, if_neg h5, if_neg h6, if_neg h7, if_neg h8, if_neg h9, if_neg h10, if_neg h11, if_pos h12]; try rfl) rfl
                        · skip
                          refine am_split (fun h13 => ?_) (fun h13 => ?_)
                          · skip
                            exact am_rv (S := sU_compute) (by unfold aU_compute_M; simp only [if_neg h1, if_neg h2, if_neg h3, if_neg h4, if_neg h5, if_neg h6, if_neg h7, if_neg h8, if_neg h9, if_neg h10, if_neg h11, if_neg h12, if_pos h13]; try rfl) rfl
                          · skip
                            refine am_split (fun h14 => ?_) (fun h14 => ?_)
                            · skip
                              refine am_call (eU_get_M i a q tl) ?_
                              refine am_call (eU_set_M i a q ((rU_get_M i a q) + r) tl) ?_
                              exact am_rv (S := sU_compute) (by unfold aU_compute_M; simp only [if_neg h1, if_neg h2, if_neg h3, if_neg h4, if_neg h5, if_neg h6, if_neg h7, if_neg h8, if_neg h9, if_neg h10, if_neg h11, if_neg h12, if_neg h13, if_pos h14]; try rfl) rfl
                            · skip
                              refine am_split (fun h15 => ?_) (fun h15 => ?_)
                              · skip
                                refine am_call (eU_get_M i a r tl) ?_
                                refine am_call (eU_set_M i a q (rU_get_M i a r) tl) ?_
                                exact am_rv (S := sU_compute) (by unfold aU_compute_M; simp only [if_neg h1, if_neg h2, if_neg h3, if_neg h4, if_neg h5, if_neg h6, if_neg h7, if_neg h8, if_neg h9, if_neg h10, if_neg h11, if_neg h12, if_neg h13, if_neg h14, if_pos h15]; try rfl) rfl
                              · skip
                                exact am_rv (S := sU_compute) (by unfold aU_compute_M; simp only [if_neg h1, if_neg h2, if_neg h3, if_neg h4, if_neg h5, if_neg h6, if_neg h7, if_neg h8, if_neg h9, if_neg h10, if_neg h11, if_neg h12, if_neg h13, if_neg h14, if_neg h15]; try rfl) rfl
noncomputable def rU_moves_M (i : Nat → Int32) (a : Nat → Nat → Int32) (p q r s : Int32) : Int32 := if (((rU_get_M i a r) + s) - (4096 : Int32)) < (0 : Int32) then (0 : Int32) else if (64 : Int32) ≤ (((rU_get_M i a r) + s) - (4096 : Int32)) then (0 : Int32) else if ((((rU_get_M i a r) + s) - (4096 : Int32)) - (((rU_get_M i a r) + s) - (4096 : Int32)) / (4 : Int32) * (4 : Int32)) = (0 : Int32) then if p = (6 : Int32) then (1 : Int32) else (1 : Int32) else (0 : Int32)
noncomputable def aU_moves_M (i : Nat → Int32) (a : Nat → Nat → Int32) (p q r s : Int32) : Nat → Nat → Int32 := if (((rU_get_M i a r) + s) - (4096 : Int32)) < (0 : Int32) then a else if (64 : Int32) ≤ (((rU_get_M i a r) + s) - (4096 : Int32)) then a else if ((((rU_get_M i a r) + s) - (4096 : Int32)) - (((rU_get_M i a r) + s) - (4096 : Int32)) / (4 : Int32) * (4 : Int32)) = (0 : Int32) then if p = (6 : Int32) then (aU_set_M i a q ((a 16) (Int32.toNatClampNeg ((((rU_get_M i a r) + s) - (4096 : Int32)) / (4 : Int32))))) else (sA a (upd (a 16) (Int32.toNatClampNeg ((((rU_get_M i a r) + s) - (4096 : Int32)) / (4 : Int32))) (rU_get_M i a q)) 16) else a
set_option maxHeartbeats 4000000 in
set_option maxRecDepth 100000 in
theorem eU_moves_M (i : Nat → Int32) (a : Nat → Nat → Int32) (p q r s : Int32) (tl : List am_Cl) : am_Ev sU_moves [.ref 22, .int p, .int q, .int r, .int s] (wX i a tl) (some (.int (rU_moves_M i a p q r s))) (wX i (aU_moves_M i a p q r s) tl) := by
  refine am_Ev_of cwU_moves rfl rfl rfl (am_wp_T gdU_moves 400 ?_)
  refine am_call (eU_get_M i a r tl) ?_
  refine am_split (fun h1 => ?_) (fun h1 => ?_)
  · skip
    exact am_ri (S := sU_moves) (by unfold rU_moves_M; simp only [if_pos h1]; try rfl) (by unfold aU_moves_M; simp only [if_pos h1]; try rfl) rfl rfl
  · skip
    refine am_split (fun h2 => ?_) (fun h2 => ?_)
    · skip
      exact am_ri (S := sU_moves) (by unfold rU_moves_M; simp only [if_neg h1, if_pos h2]; try rfl) (by unfold aU_moves_M; simp only [if_neg h1, if_pos h2]; try rfl) rfl rfl
    · skip
      refine am_split (fun h3 => ?_) (fun h3 => ?_)
      · skip
        refine am_split (fun h4 => ?_) (fun h4 => ?_)
        · skip
          refine And.intro (by exact in_div (by assumption) (by assumption)) ?_
          refine am_call (eU_set_M i a q ((a 16) (Int32.toNatClampNeg ((((rU_get_M i a r) + s) - (4096 : Int32)) / (4 : Int32)))) tl) ?_
          exact am_ri (S := sU_moves) (by unfold rU_moves_M; simp only [if_neg h1, if_neg h2, if_pos h3, if_pos h4]; try rfl) (by unfold aU_moves_M; simp only [if_neg h1, if_neg h2, if_pos h3, if_pos h4]; try rfl) rfl rfl
        · skip
          refine am_call (eU_get_M i a q tl) ?_
          refine And.intro (by exact in_div (by assumption) (by assumption)) ?_
          exact am_ri (S := sU_moves) (by unfold rU_moves_M; simp only [if_neg h1, if_neg h2, if_pos h3, if_neg h4]; try rfl) (by unfold aU_moves_M; simp only [if_neg h1, if_neg h2, if_pos h3, if_neg h4]; try rfl) rfl rfl
      · skip
        exact am_ri (S := sU_moves) (by unfold rU_moves_M; simp only [if_neg h1, if_neg h2, if_neg h3]; try rfl) (by unfold aU_moves_M; simp only [if_neg h1, if_neg h2, if_neg h3]; try rfl) rfl rfl
theorem zoU_moves_M (i : Nat → Int32) (a : Nat → Nat → Int32) (p q r s : Int32) : rU_moves_M i a p q r s = 0 ∨ rU_moves_M i a p q r s = 1 := by
  unfold rU_moves_M
  repeat' (first | with_reducible refine zo_ite ?_ ?_ | with_reducible exact Or.inl rfl | with_reducible exact Or.inr rfl)
noncomputable def rU_get_T (i : Nat → Int32) (a : Nat → Nat → Int32) (p : Int32) : Int32 := if p < (0 : Int32) then (0 : Int32) else if (32 : Int32) ≤ p then (0 : Int32) else ((a 18) (Int32.toNatClampNeg p))
set_option maxHeartbeats 4000000 in
set_option maxRecDepth 100000 in
theorem eU_get_T (i : Nat → Int32) (a : Nat → Nat → Int32) (p : Int32) (tl : List am_Cl) : am_Ev sU_get [.ref 26, .int p] (wX i a tl) (some (.int (rU_get_T i a p))) (wX i a tl) := by
  refine am_Ev_of cwU_get rfl rfl rfl (am_wp_T gdU_get 400 ?_)
  refine am_split (fun h1 => ?_) (fun h1 => ?_)
  · skip
    exact am_ri (S := sU_get) (by unfold rU_get_T; simp only [if_pos h1]; try rfl) rfl rfl rfl
  · skip
    refine am_split (fun h2 => ?_) (fun h2 => ?_)
    · skip
      exact am_ri (S := sU_get) (by unfold rU_get_T; simp only [if_neg h1, if_pos h2]; try rfl) rfl rfl rfl
    · skip
      refine And.intro (by exact vp_of (M := 32) (by assumption) (by assumption) rfl) ?_
      exact am_ri (S := sU_get) (by unfold rU_get_T; simp only [if_neg h1, if_neg h2]; try rfl) rfl rfl rfl
noncomputable def aU_set_T (i : Nat → Int32) (a : Nat → Nat → Int32) (p q : Int32) : Nat → Nat → Int32 := if p ≤ (0 : Int32) then a else if (32 : Int32) ≤ p then a else (sA a (upd (a 18) (Int32.toNatClampNeg p) q) 18)
set_option maxHeartbeats 4000000 in
set_option maxRecDepth 100000 in
theorem eU_set_T (i : Nat → Int32) (a : Nat → Nat → Int32) (p q : Int32) (tl : List am_Cl) : am_Ev sU_set [.ref 26, .int p, .int q] (wX i a tl) none (wX i (aU_set_T i a p q) tl) := by
  refine am_Ev_of cwU_set rfl rfl rfl (am_wp_T gdU_set 400 ?_)
  refine am_split (fun h1 => ?_) (fun h1 => ?_)
  · skip
    exact am_rv (S := sU_set) (by unfold aU_set_T; simp only [if_pos h1]; try rfl) rfl
  · skip
    refine am_split (fun h2 => ?_) (fun h2 => ?_)
    · skip
      exact am_rv (S := sU_set) (by unfold aU_set_T; simp only [if_neg h1, if_pos h2]; try rfl) rfl
    · skip
      refine And.intro (by exact vp_ofp (M := 32) (by assumption) (by assumption) rfl) ?_
      exact am_rv (S := sU_set) (by unfold aU_set_T; simp only [if_neg h1, if_neg h2]; try rfl) rfl
noncomputable def rU_wordAt_T (i : Nat → Int32) (a : Nat → Nat → Int32) (p : Int32) : Int32 := if p < (0 : Int32) then (0 : Int32) else if (16 : Int32) ≤ p then (0 : Int32) else ((a 19) (Int32.toNatClampNeg p))
set_option maxHeartbeats 4000000 in
set_option maxRecDepth 100000 in
theorem eU_wordAt_T (i : Nat → Int32) (a : Nat → Nat → Int32) (p : Int32) (tl : List am_Cl) : am_Ev sU_wordAt [.ref 26, .int p] (wX i a tl) (some (.int (rU_wordAt_T i a p))) (wX i a tl) := by
  refine am_Ev_of cwU_wordAt rfl rfl rfl (am_wp_T gdU_wordAt 400 ?_)
  refine am_split (fun h1 => ?_) (fun h1 => ?_)
  · skip
    exact am_ri (S := sU_wordAt) (by unfold rU_wordAt_T; simp only [if_pos h1]; try rfl) rfl rfl rfl
  · skip
    refine am_split (fun h2 => ?_) (fun h2 => ?_)
    · skip
      exact am_ri (S := sU_wordAt) (by unfold rU_wordAt_T; simp only [if_neg h1, if_pos h2]; try rfl) rfl rfl rfl
    · skip
      refine And.intro (by exact vp_of (M := 16) (by assumption) (by assumption) rfl) ?_
      exact am_ri (S := sU_wordAt) (by unfold rU_wordAt_T; simp only [if_neg h1, if_neg h2]; try rfl) rfl rfl rfl
noncomputable def rU_outputAt_T (i : Nat → Int32) (a : Nat → Nat → Int32) (p : Int32) : Int32 := if p < (0 : Int32) then (0 : Int32) else if (i 13) ≤ p then (0 : Int32) else if (40 : Int32) ≤ p then (0 : Int32) else ((a 20) (Int32.toNatClampNeg p))
set_option maxHeartbeats 4000000 in
set_option maxRecDepth 100000 in
theorem eU_outputAt_T (i : Nat → Int32) (a : Nat → Nat → Int32) (p : Int32) (tl : List am_Cl) : am_Ev sU_outputAt [.ref 26, .int p] (wX i a tl) (some (.int (rU_outputAt_T i a p))) (wX i a tl) := by
  refine am_Ev_of cwU_outputAt rfl rfl rfl (am_wp_T gdU_outputAt 400 ?_)
  refine am_split (fun h1 => ?_) (fun h1 => ?_)
  · skip
    exact am_ri (S := sU_outputAt) (by unfold rU_outputAt_T; simp only [if_pos h1]; try rfl) rfl rfl rfl
  · skip
    refine am_split (fun h2 => ?_) (fun h2 => ?_)
    · skip
      exact am_ri (S := sU_outputAt) (by unfold rU_outputAt_T; simp only [if_neg h1, if_pos h2]; try rfl) rfl rfl rfl
    · skip
      refine am_split (fun h3 => ?_) (fun h3 => ?_)
      · skip
        exact am_ri (S := sU_outputAt) (by unfold rU_outputAt_T; simp only [if_neg h1, if_neg h2, if_pos h3]; try rfl) rfl rfl rfl
      · skip
        refine And.intro (by exact vp_of (M := 40) (by assumption) (by assumption) rfl) ?_
        exact am_ri (S := sU_outputAt) (by unfold rU_outputAt_T; simp only [if_neg h1, if_neg h2, if_neg h3]; try rfl) rfl rfl rfl
noncomputable def iU_readInput_T (i : Nat → Int32) (a : Nat → Nat → Int32) : Nat → Int32 := if (20 : Int32) ≤ (i 12) then i else (sI i ((i 12) + (1 : Int32)) 12)
noncomputable def aU_readInput_T (i : Nat → Int32) (a : Nat → Nat → Int32) : Nat → Nat → Int32 := if (20 : Int32) ≤ (i 12) then (aU_set_T i a (10 : Int32) (rI_valueAt i a (i 12))) else (aU_set_T i a (10 : Int32) (rI_valueAt i a (i 12)))
set_option maxHeartbeats 4000000 in
set_option maxRecDepth 100000 in
theorem eU_readInput_T (i : Nat → Int32) (a : Nat → Nat → Int32) (tl : List am_Cl) : am_Ev sU_readInput [.ref 26] (wX i a tl) none (wX (iU_readInput_T i a ) (aU_readInput_T i a ) tl) := by
  refine am_Ev_of cwU_readInput rfl rfl rfl (am_wp_T gdU_readInput 400 ?_)
  refine am_call (eI_valueAt i a (i 12) tl) ?_
  refine am_call (eU_set_T i a (10 : Int32) (rI_valueAt i a (i 12)) tl) ?_
  refine am_split (fun h1 => ?_) (fun h1 => ?_)
  · skip
    exact am_rv (S := sU_readInput) (by unfold iU_readInput_T aU_readInput_T; simp only [if_pos h1]; try rfl) rfl
  · skip
    exact am_rv (S := sU_readInput) (by unfold iU_readInput_T aU_readInput_T; simp only [if_neg h1]; try rfl) rfl
noncomputable def iU_writeOutput_T (i : Nat → Int32) (a : Nat → Nat → Int32) : Nat → Int32 := if (i 13) < (0 : Int32) then i else if (40 : Int32) ≤ (i 13) then i else (sI i ((i 13) + (1 : Int32)) 13)
noncomputable def aU_writeOutput_T (i : Nat → Int32) (a : Nat → Nat → Int32) : Nat → Nat → Int32 := if (i 13) < (0 : Int32) then a else if (40 : Int32) ≤ (i 13) then a else (sA a (upd (a 20) (Int32.toNatClampNeg (i 13)) (rU_get_T i a (10 : Int32))) 20)
set_option maxHeartbeats 4000000 in
set_option maxRecDepth 100000 in
theorem eU_writeOutput_T (i : Nat → Int32) (a : Nat → Nat → Int32) (tl : List am_Cl) : am_Ev sU_writeOutput [.ref 26] (wX i a tl) none (wX (iU_writeOutput_T i a ) (aU_writeOutput_T i a ) tl) := by
  refine am_Ev_of cwU_writeOutput rfl rfl rfl (am_wp_T gdU_writeOutput 400 ?_)
  refine am_split (fun h1 => ?_) (fun h1 => ?_)
  · skip
    exact am_rv (S := sU_writeOutput) (by unfold iU_writeOutput_T aU_writeOutput_T; simp only [if_pos h1]; try rfl) rfl
  · skip
    refine am_split (fun h2 => ?_) (fun h2 => ?_)
    · skip
      exact am_rv (S := sU_writeOutput) (by unfold iU_writeOutput_T aU_writeOutput_T; simp only [if_neg h1, if_pos h2]; try rfl) rfl
    · skip
      refine am_call (eU_get_T i a (10 : Int32) tl) ?_
      refine And.intro (by exact vp_of (M := 40) (by assumption) (by assumption) rfl) ?_
      exact am_rv (S := sU_writeOutput) (by unfold iU_writeOutput_T aU_writeOutput_T; simp only [if_neg h1, if_neg h2]; try rfl) rfl
noncomputable def rU_branches_T (i : Nat → Int32) (a : Nat → Nat → Int32) (p q r : Int32) : Int32 := if p = (8 : Int32) then if (rU_get_T i a q) = (rU_get_T i a r) then (1 : Int32) else (0 : Int32) else if p = (9 : Int32) then if (rU_get_T i a q) = (rU_get_T i a r) then (0 : Int32) else (1 : Int32) else if (rU_get_T i a r) ≤ (rU_get_T i a q) then (0 : Int32) else (1 : Int32)
set_option maxHeartbeats 4000000 in
set_option maxRecDepth 100000 in
theorem eU_branches_T (i : Nat → Int32) (a : Nat → Nat → Int32) (p q r : Int32) (tl : List am_Cl) : am_Ev sU_branches [.ref 26, .int p, .int q, .int r] (wX i a tl) (some (.int (rU_branches_T i a p q r))) (wX i a tl) := by
  refine am_Ev_of cwU_branches rfl rfl rfl (am_wp_T gdU_branches 400 ?_)
  refine am_split (fun h1 => ?_) (fun h1 => ?_)
  · skip
    refine am_call (eU_get_T i a q tl) ?_
    refine am_call (eU_get_T i a r tl) ?_
    refine am_split (fun h2 => ?_) (fun h2 => ?_)
    · skip
      exact am_ri (S := sU_branches) (by unfold rU_branches_T; simp only [if_pos h1, if_pos h2]; try rfl) rfl rfl rfl
    · skip
      exact am_ri (S := sU_branches) (by unfold rU_branches_T; simp only [if_pos h1, if_neg h2]; try rfl) rfl rfl rfl
  · skip
    refine am_split (fun h3 => ?_) (fun h3 => ?_)
    · skip
      refine am_call (eU_get_T i a q tl) ?_
      refine am_call (eU_get_T i a r tl) ?_
      refine am_split (fun h4 => ?_) (fun h4 => ?_)
      · skip
        exact am_ri (S := sU_branches) (by unfold rU_branches_T; simp only [if_neg h1, if_pos h3, if_pos h4]; try rfl) rfl rfl rfl
      · skip
        exact am_ri (S := sU_branches) (by unfold rU_branches_T; simp only [if_neg h1, if_pos h3, if_neg h4]; try rfl) rfl rfl rfl
    · skip
      refine am_call (eU_get_T i a q tl) ?_
      refine am_call (eU_get_T i a r tl) ?_
      refine am_split (fun h5 => ?_) (fun h5 => ?_)
      · skip
        exact am_ri (S := sU_branches) (by unfold rU_branches_T; simp only [if_neg h1, if_neg h3, if_pos h5]; try rfl) rfl rfl rfl
      · skip
        exact am_ri (S := sU_branches) (by unfold rU_branches_T; simp only [if_neg h1, if_neg h3, if_neg h5]; try rfl) rfl rfl rfl
theorem zoU_branches_T (i : Nat → Int32) (a : Nat → Nat → Int32) (p q r : Int32) : rU_branches_T i a p q r = 0 ∨ rU_branches_T i a p q r = 1 := by
  unfold rU_branches_T
  repeat' (first | with_reducible refine zo_ite ?_ ?_ | with_reducible exact Or.inl rfl | with_reducible exact Or.inr rfl)
noncomputable def aU_compute_T (i : Nat → Int32) (a : Nat → Nat → Int32) (p q r s : Int32) : Nat → Nat → Int32 := if p = (0 : Int32) then (aU_set_T i a q ((rU_get_T i a r) + (rU_get_T i a s))) else if p = (1 : Int32) then (aU_set_T i a q ((rU_get_T i a r) - (rU_get_T i a s))) else if p = (2 : Int32) then (aU_set_T i a q ((rU_get_T i a r) &&& (rU_get_T i a s))) else if p = (3 : Int32) then (aU_set_T i a q ((rU_get_T i a r) ||| (rU_get_T i a s))) else if p = (4 : Int32) then (aU_set_T i a q ((rU_get_T i a r) + s)) else if p = (5 : Int32) then (aU_set_T i a q (r <<< ((12 : Int32) &&& 31))) else if p = (6 : Int32) then a else if p = (7 : Int32) then a else if p = (8 : Int32) then a else if p = (9 : Int32) then a else if p = (10 : Int32) then a else if p = (11 : Int32) then a else if p = (12 : Int32) then a else if p = (13 : Int32) then (aU_set_T i a q ((rU_get_T i a q) + r)) else if p = (14 : Int32) then (aU_set_T i a q (rU_get_T i a r)) else a
set_option maxHeartbeats 4000000 in
set_option maxRecDepth 100000 in
theorem eU_compute_T (i : Nat → Int32) (a : Nat → Nat → Int32) (p q r s : Int32) (tl : List am_Cl) : am_Ev sU_compute [.ref 26, .int p, .int q, .int r, .int s] (wX i a tl) none (wX i (aU_compute_T i a p q r s) tl) := by
  refine am_Ev_of cwU_compute rfl rfl rfl (am_wp_T gdU_compute 400 ?_)
  refine am_split (fun h1 => ?_) (fun h1 => ?_)
  · skip
    refine am_call (eU_get_T i a r tl) ?_
    refine am_call (eU_get_T i a s tl) ?_
    refine am_call (eU_set_T i a q ((rU_get_T i a r) + (rU_get_T i a s)) tl) ?_
    exact am_rv (S := sU_compute) (by unfold aU_compute_T; simp only [if_pos h1]; try rfl) rfl
  · skip
    refine am_split (fun h2 => ?_) (fun h2 => ?_)
    · skip
      refine am_call (eU_get_T i a r tl) ?_
      refine am_call (eU_get_T i a s tl) ?_
      refine am_call (eU_set_T i a q ((rU_get_T i a r) - (rU_get_T i a s)) tl) ?_
      exact am_rv (S := sU_compute) (by unfold aU_compute_T; simp only [if_neg h1, if_pos h2]; try rfl) rfl
    · skip
      refine am_split (fun h3 => ?_) (fun h3 => ?_)
      · skip
        refine am_call (eU_get_T i a r tl) ?_
        refine am_call (eU_get_T i a s tl) ?_
        refine am_call (eU_set_T i a q ((rU_get_T i a r) &&& (rU_get_T i a s)) tl) ?_
        exact am_rv (S := sU_compute) (by unfold aU_compute_T; simp only [if_neg h1, if_neg h2, if_pos h3]; try rfl) rfl
      · skip
        refine am_split (fun h4 => ?_) (fun h4 => ?_)
        · skip
          refine am_call (eU_get_T i a r tl) ?_
          refine am_call (eU_get_T i a s tl) ?_
          refine am_call (eU_set_T i a q ((rU_get_T i a r) ||| (rU_get_T i a s)) tl) ?_
          exact am_rv (S := sU_compute) (by unfold aU_compute_T; simp only [if_neg h1, if_neg h2, if_neg h3, if_pos h4]; try rfl) rfl
        · skip
          refine am_split (fun h5 => ?_) (fun h5 => ?_)
          · skip
            refine am_call (eU_get_T i a r tl) ?_
            refine am_call (eU_set_T i a q ((rU_get_T i a r) + s) tl) ?_
            exact am_rv (S := sU_compute) (by unfold aU_compute_T; simp only [if_neg h1, if_neg h2, if_neg h3, if_neg h4, if_pos h5]; try rfl) rfl
          · skip
            refine am_split (fun h6 => ?_) (fun h6 => ?_)
            · skip
              refine am_call (eU_set_T i a q (r <<< ((12 : Int32) &&& 31)) tl) ?_
              exact am_rv (S := sU_compute) (by unfold aU_compute_T; simp only [if_neg h1, if_neg h2, if_neg h3, if_neg h4, if_neg h5, if_pos h6]; try rfl) rfl
            · skip
              refine am_split (fun h7 => ?_) (fun h7 => ?_)
              · skip
                exact am_rv (S := sU_compute) (by unfold aU_compute_T; simp only [if_neg h1, if_neg h2, if_neg h3, if_neg h4, if_neg h5, if_neg h6, if_pos h7]; try rfl) rfl
              · skip
                refine am_split (fun h8 => ?_) (fun h8 => ?_)
                · skip
                  exact am_rv (S := sU_compute) (by unfold aU_compute_T; simp only [if_neg h1, if_neg h2, if_neg h3, if_neg h4, if_neg h5, if_neg h6, if_neg h7, if_pos h8]; try rfl) rfl
                · skip
                  refine am_split (fun h9 => ?_) (fun h9 => ?_)
                  · skip
                    exact am_rv (S := sU_compute) (by unfold aU_compute_T; simp only [if_neg h1, if_neg h2, if_neg h3, if_neg h4, if_neg h5, if_neg h6, if_neg h7, if_neg h8, if_pos h9]; try rfl) rfl
                  · skip
                    refine am_split (fun h10 => ?_) (fun h10 => ?_)
                    · skip
                      exact am_rv (S := sU_compute) (by unfold aU_compute_T; simp only [if_neg h1, if_neg h2, if_neg h3, if_neg h4, if_neg h5, if_neg h6, if_neg h7, if_neg h8, if_neg h9, if_pos h10]; try rfl) rfl
                    · skip
                      refine am_split (fun h11 => ?_) (fun h11 => ?_)
                      · skip
                        exact am_rv (S := sU_compute) (by unfold aU_compute_T; simp only [if_neg h1, if_neg h2, if_neg h3, if_neg h4, if_neg h5, if_neg h6, if_neg h7, if_neg h8, if_neg h9, if_neg h10, if_pos h11]; try rfl) rfl
                      · skip
                        refine am_split (fun h12 => ?_) (fun h12 => ?_)
                        · skip
                          exact am_rv (S := sU_compute) (by unfold aU_compute_T; simp only [if_neg h1, if_neg h2, if_neg h3, if_neg h4, if_neg h5, if_neg h6, if_neg h7, if_neg h8, if_neg h9, if_neg h10, if_neg h11, if_pos h12]; try rfl) rfl
                        · skip
                          refine am_split (fun h13 => ?_) (fun h13 => ?_)
                          · skip
                            exact am_rv (S := sU_compute) (by unfold aU_compute_T; simp only [if_neg h1, if_neg h2, if_neg h3, if_neg h4, if_neg h5, if_neg h6, if_neg h7, if_neg h8, if_neg h9, if_neg h10, if_neg h11, if_neg h12, if_pos h13]; try rfl) rfl
                          · skip
                            refine am_split (fun h14 => ?_) (fun h14 => ?_)
                            · skip
                              refine am_call (eU_get_T i a q tl) ?_
                              refine am_call (eU_set_T i a q ((rU_get_T i a q) + r) tl) ?_
                              exact am_rv (S := sU_compute) (by unfold aU_compute_T; simp only [if_neg h1, if_neg h2, if_neg h3, if_neg h4, if_neg h5, if_neg h6, if_neg h7, if_neg h8, if_neg h9, if_neg h10, if_neg h11, if_neg h12, if_neg h13, if_pos h14]; try rfl) rfl
                            · skip
                              refine am_split (fun h15 => ?_) (fun h15 => ?_)
                              · skip
                                refine am_call (eU_get_T i a r tl) ?_
                                refine am_call (eU_set_T i a q (rU_get_T i a r) tl) ?_
                                exact am_rv (S := sU_compute) (by unfold aU_compute_T; simp only [if_neg h1, if_neg h2, if_neg h3, if_neg h4, if_neg h5, if_neg h6, if_neg h7, if_neg h8, if_neg h9, if_neg h10, if_neg h11, if_neg h12, if_neg h13, if_neg h14, if_pos h15]; try rfl) rfl
                              · skip
                                exact am_rv (S := sU_compute) (by unfold aU_compute_T; simp only [if_neg h1, if_neg h2, if_neg h3, if_neg h4, if_neg h5, if_neg h6, if_neg h7, if_neg h8, if_neg h9, if_neg h10, if_neg h11, if_neg h12, if_neg h13, if_neg h14, if_neg h15]; try rfl) rfl
noncomputable def rU_moves_T (i : Nat → Int32) (a : Nat → Nat → Int32) (p q r s : Int32) : Int32 := if (((rU_get_T i a r) + s) - (4096 : Int32)) < (0 : Int32) then (0 : Int32) else if (64 : Int32) ≤ (((rU_get_T i a r) + s) - (4096 : Int32)) then (0 : Int32) else if ((((rU_get_T i a r) + s) - (4096 : Int32)) - (((rU_get_T i a r) + s) - (4096 : Int32)) / (4 : Int32) * (4 : Int32)) = (0 : Int32) then if p = (6 : Int32) then (1 : Int32) else (1 : Int32) else (0 : Int32)
noncomputable def aU_moves_T (i : Nat → Int32) (a : Nat → Nat → Int32) (p q r s : Int32) : Nat → Nat → Int32 := if (((rU_get_T i a r) + s) - (4096 : Int32)) < (0 : Int32) then a else if (64 : Int32) ≤ (((rU_get_T i a r) + s) - (4096 : Int32)) then a else if ((((rU_get_T i a r) + s) - (4096 : Int32)) - (((rU_get_T i a r) + s) - (4096 : Int32)) / (4 : Int32) * (4 : Int32)) = (0 : Int32) then if p = (6 : Int32) then (aU_set_T i a q ((a 19) (Int32.toNatClampNeg ((((rU_get_T i a r) + s) - (4096 : Int32)) / (4 : Int32))))) else (sA a (upd (a 19) (Int32.toNatClampNeg ((((rU_get_T i a r) + s) - (4096 : Int32)) / (4 : Int32))) (rU_get_T i a q)) 19) else a
set_option maxHeartbeats 4000000 in
set_option maxRecDepth 100000 in
theorem eU_moves_T (i : Nat → Int32) (a : Nat → Nat → Int32) (p q r s : Int32) (tl : List am_Cl) : am_Ev sU_moves [.ref 26, .int p, .int q, .int r, .int s] (wX i a tl) (some (.int (rU_moves_T i a p q r s))) (wX i (aU_moves_T i a p q r s) tl) := by
  refine am_Ev_of cwU_moves rfl rfl rfl (am_wp_T gdU_moves 400 ?_)
  refine am_call (eU_get_T i a r tl) ?_
  refine am_split (fun h1 => ?_) (fun h1 => ?_)
  · skip
    exact am_ri (S := sU_moves) (by unfold rU_moves_T; simp only [if_pos h1]; try rfl) (by unfold aU_moves_T; simp only [if_pos h1]; try rfl) rfl rfl
  · skip
    refine am_split (fun h2 => ?_) (fun h2 => ?_)
    · skip
      exact am_ri (S := sU_moves) (by unfold rU_moves_T; simp only [if_neg h1, if_pos h2]; try rfl) (by unfold aU_moves_T; simp only [if_neg h1, if_pos h2]; try rfl) rfl rfl
    · skip
      refine am_split (fun h3 => ?_) (fun h3 => ?_)
      · skip
        refine am_split (fun h4 => ?_) (fun h4 => ?_)
        · skip
          refine And.intro (by exact in_div (by assumption) (by assumption)) ?_
          refine am_call (eU_set_T i a q ((a 19) (Int32.toNatClampNeg ((((rU_get_T i a r) + s) - (4096 : Int32)) / (4 : Int32)))) tl) ?_
          exact am_ri (S := sU_moves) (by unfold rU_moves_T; simp only [if_neg h1, if_neg h2, if_pos h3, if_pos h4]; try rfl) (by unfold aU_moves_T; simp only [if_neg h1, if_neg h2, if_pos h3, if_pos h4]; try rfl) rfl rfl
        · skip
          refine am_call (eU_get_T i a q tl) ?_
          refine And.intro (by exact in_div (by assumption) (by assumption)) ?_
          exact am_ri (S := sU_moves) (by unfold rU_moves_T; simp only [if_neg h1, if_neg h2, if_pos h3, if_neg h4]; try rfl) (by unfold aU_moves_T; simp only [if_neg h1, if_neg h2, if_pos h3, if_neg h4]; try rfl) rfl rfl
      · skip
        exact am_ri (S := sU_moves) (by unfold rU_moves_T; simp only [if_neg h1, if_neg h2, if_neg h3]; try rfl) (by unfold aU_moves_T; simp only [if_neg h1, if_neg h2, if_neg h3]; try rfl) rfl rfl
theorem zoU_moves_T (i : Nat → Int32) (a : Nat → Nat → Int32) (p q r s : Int32) : rU_moves_T i a p q r s = 0 ∨ rU_moves_T i a p q r s = 1 := by
  unfold rU_moves_T
  repeat' (first | with_reducible refine zo_ite ?_ ?_ | with_reducible exact Or.inl rfl | with_reducible exact Or.inr rfl)
end
section
noncomputable def rK_begunAt (i : Nat → Int32) (a : Nat → Nat → Int32) (p : Int32) : Int32 := if p < (48 : Int32) then (0 : Int32) else if (i 5) ≤ p then (0 : Int32) else if (256 : Int32) ≤ p then (0 : Int32) else if (p - p / (2 : Int32) * (2 : Int32)) = (0 : Int32) then ((a 13) (Int32.toNatClampNeg p)) else (0 : Int32)
set_option maxHeartbeats 4000000 in
set_option maxRecDepth 100000 in
theorem eK_begunAt (i : Nat → Int32) (a : Nat → Nat → Int32) (p : Int32) (tl : List am_Cl) : am_Ev sK_begunAt [.ref 18, .int p] (wX i a tl) (some (.int (rK_begunAt i a p))) (wX i a tl) := by
  refine am_Ev_of cwK_begunAt rfl rfl rfl (am_wp_T gdK_begunAt 400 ?_)
  refine am_split (fun h1 => ?_) (fun h1 => ?_)
  · skip
    refine am_split (fun _ => ?_) (fun hz => absurd (by decide) hz)
    exact am_ri (S := sK_begunAt) (by unfold rK_begunAt; simp only [if_pos h1]; try rfl) rfl rfl rfl
  · skip
    refine am_split (fun h2 => ?_) (fun h2 => ?_)
    · skip
      refine am_split (fun _ => ?_) (fun hz => absurd (by decide) hz)
      exact am_ri (S := sK_begunAt) (by unfold rK_begunAt; simp only [if_neg h1, if_pos h2]; try rfl) rfl rfl rfl
    · skip
      refine am_split (fun h3 => ?_) (fun h3 => ?_)
      · skip
        refine am_split (fun _ => ?_) (fun hz => absurd (by decide) hz)
        exact am_ri (S := sK_begunAt) (by unfold rK_begunAt; simp only [if_neg h1, if_neg h2, if_pos h3]; try rfl) rfl rfl rfl
      · skip
        refine am_split (fun h4 => ?_) (fun h4 => ?_)
        · skip
          refine am_split (fun hz => absurd hz (by decide)) (fun _ => ?_)
          refine And.intro (by exact vp_ofl (M := 256) (K := 48) (by assumption) (by decide) (by assumption) rfl) ?_
          exact am_ri (S := sK_begunAt) (by unfold rK_begunAt; simp only [if_neg h1, if_neg h2, if_neg h3, if_pos h4]; try rfl) rfl rfl rfl
        · skip
          refine am_split (fun _ => ?_) (fun hz => absurd (by decide) hz)
          exact am_ri (S := sK_begunAt) (by unfold rK_begunAt; simp only [if_neg h1, if_neg h2, if_neg h3, if_neg h4]; try rfl) rfl rfl rfl
noncomputable def rK_before (i : Nat → Int32) (a : Nat → Nat → Int32) (p q : Int32) : Int32 := if (p - p / (16 : Int32) * (16 : Int32)) < q then (0 : Int32) else (rK_begunAt i a (p - q))
set_option maxHeartbeats 4000000 in
set_option maxRecDepth 100000 in
theorem eK_before (i : Nat → Int32) (a : Nat → Nat → Int32) (p q : Int32) (tl : List am_Cl) : am_Ev sK_before [.ref 18, .int p, .int q] (wX i a tl) (some (.int (rK_before i a p q))) (wX i a tl) := by
  refine am_Ev_of cwK_before rfl rfl rfl (am_wp_T gdK_before 400 ?_)
  refine am_split (fun h1 => ?_) (fun h1 => ?_)
  · skip
    exact am_ri (S := sK_before) (by unfold rK_before; simp only [if_pos h1]; try rfl) rfl rfl rfl
  · skip
    refine am_call (eK_begunAt i a (p - q) tl) ?_
    exact am_ri (S := sK_before) (by unfold rK_before; simp only [if_neg h1]; try rfl) rfl rfl rfl
noncomputable def rK_isDataFenced (i : Nat → Int32) (a : Nat → Nat → Int32) (p : Int32) : Int32 := if (rK_before i a p (8 : Int32)) = (31457203 : Int32) then if (rK_before i a p (4 : Int32)) = (30404531 : Int32) then (1 : Int32) else (0 : Int32) else (0 : Int32)
set_option maxHeartbeats 4000000 in
set_option maxRecDepth 100000 in
theorem eK_isDataFenced (i : Nat → Int32) (a : Nat → Nat → Int32) (p : Int32) (tl : List am_Cl) : am_Ev sK_isDataFenced [.ref 18, .int p] (wX i a tl) (some (.int (rK_isDataFenced i a p))) (wX i a tl) := by
  refine am_Ev_of cwK_isDataFenced rfl rfl rfl (am_wp_T gdK_isDataFenced 400 ?_)
  refine am_call (eK_before i a p (8 : Int32) tl) ?_
  refine am_split (fun h1 => ?_) (fun h1 => ?_)
  · skip
    refine am_call (eK_before i a p (4 : Int32) tl) ?_
    refine am_split (fun h2 => ?_) (fun h2 => ?_)
    · skip
      exact am_ri (S := sK_isDataFenced) (by unfold rK_isDataFenced; simp only [if_pos h1, if_pos h2]; try rfl) rfl rfl rfl
    · skip
      exact am_ri (S := sK_isDataFenced) (by unfold rK_isDataFenced; simp only [if_pos h1, if_neg h2]; try rfl) rfl rfl rfl
  · skip
    exact am_ri (S := sK_isDataFenced) (by unfold rK_isDataFenced; simp only [if_neg h1]; try rfl) rfl rfl rfl
theorem zoK_isDataFenced (i : Nat → Int32) (a : Nat → Nat → Int32) (p : Int32) : rK_isDataFenced i a p = 0 ∨ rK_isDataFenced i a p = 1 := by
  unfold rK_isDataFenced
  repeat' (first | with_reducible refine zo_ite ?_ ?_ | with_reducible exact Or.inl rfl | with_reducible exact Or.inr rfl)
noncomputable def rK_mayLeadTo (i : Nat → Int32) (a : Nat → Nat → Int32) (p : Int32) : Int32 := if p = (0 : Int32) then (1 : Int32) else if p = (16 : Int32) then (1 : Int32) else if p = (32 : Int32) then (1 : Int32) else if (rK_begunAt i a p) = (0 : Int32) then (0 : Int32) else if (rK_begunAt i a p) = (30404531 : Int32) then (0 : Int32) else if (rF_kindOf (rK_begunAt i a p)) = (6 : Int32) then (0 : Int32) else if (rF_kindOf (rK_begunAt i a p)) = (7 : Int32) then (0 : Int32) else if (rF_kindOf (rK_begunAt i a p)) = (12 : Int32) then (0 : Int32) else (1 : Int32)
set_option maxHeartbeats 4000000 in
set_option maxRecDepth 100000 in
theorem eK_mayLeadTo (i : Nat → Int32) (a : Nat → Nat → Int32) (p : Int32) (tl : List am_Cl) : am_Ev sK_mayLeadTo [.ref 18, .int p] (wX i a tl) (some (.int (rK_mayLeadTo i a p))) (wX i a tl) := by
  refine am_Ev_of cwK_mayLeadTo rfl rfl rfl (am_wp_T gdK_mayLeadTo 400 ?_)
  refine am_split (fun h1 => ?_) (fun h1 => ?_)
  · skip
    exact am_ri (S := sK_mayLeadTo) (by unfold rK_mayLeadTo; simp only [if_pos h1]; try rfl) rfl rfl rfl
  · skip
    refine am_split (fun h2 => ?_) (fun h2 => ?_)
    · skip
      exact am_ri (S := sK_mayLeadTo) (by unfold rK_mayLeadTo; simp only [if_neg h1, if_pos h2]; try rfl) rfl rfl rfl
    · skip
      refine am_split (fun h3 => ?_) (fun h3 => ?_)
      · skip
        exact am_ri (S := sK_mayLeadTo) (by unfold rK_mayLeadTo; simp only [if_neg h1, if_neg h2, if_pos h3]; try rfl) rfl rfl rfl
      · skip
        refine am_call (eK_begunAt i a p tl) ?_
        refine am_call (eF_kindOf (rK_begunAt i a p) _) ?_
        refine am_split (fun h4 => ?_) (fun h4 => ?_)
        · skip
          exact am_ri (S := sK_mayLeadTo) (by unfold rK_mayLeadTo; simp only [if_neg h1, if_neg h2, if_neg h3, if_pos h4]; try rfl) rfl rfl rfl
        · skip
          refine am_split (fun h5 => ?_) (fun h5 => ?_)
          · skip
            exact am_ri (S := sK_mayLeadTo) (by unfold rK_mayLeadTo; simp only [if_neg h1, if_neg h2, if_neg h3, if_neg h4, if_pos h5]; try rfl) rfl rfl rfl
          · skip
            refine am_split (fun h6 => ?_) (fun h6 => ?_)
            · skip
              exact am_ri (S := sK_mayLeadTo) (by unfold rK_mayLeadTo; simp only [if_neg h1, if_neg h2, if_neg h3, if_neg h4, if_neg h5, if_pos h6]; try rfl) rfl rfl rfl
            · skip
              refine am_split (fun h7 => ?_) (fun h7 => ?_)
              · skip
                exact am_ri (S := sK_mayLeadTo) (by unfold rK_mayLeadTo; simp only [if_neg h1, if_neg h2, if_neg h3, if_neg h4, if_neg h5, if_neg h6, if_pos h7]; try rfl) rfl rfl rfl
              · skip
                refine am_split (fun h8 => ?_) (fun h8 => ?_)
                · skip
                  exact am_ri (S := sK_mayLeadTo) (by unfold rK_mayLeadTo; simp only [if_neg h1, if_neg h2, if_neg h3, if_neg h4, if_neg h5, if_neg h6, if_neg h7, if_pos h8]; try rfl) rfl rfl rfl
                · skip
                  exact am_ri (S := sK_mayLeadTo) (by unfold rK_mayLeadTo; simp only [if_neg h1, if_neg h2, if_neg h3, if_neg h4, if_neg h5, if_neg h6, if_neg h7, if_neg h8]; try rfl) rfl rfl rfl
theorem zoK_mayLeadTo (i : Nat → Int32) (a : Nat → Nat → Int32) (p : Int32) : rK_mayLeadTo i a p = 0 ∨ rK_mayLeadTo i a p = 1 := by
  unfold rK_mayLeadTo
  repeat' (first | with_reducible refine zo_ite ?_ ?_ | with_reducible exact Or.inl rfl | with_reducible exact Or.inr rfl)
noncomputable def rK_mayChangeReserved (i : Nat → Int32) (a : Nat → Nat → Int32) (p q r : Int32) : Int32 := if p = (4 : Int32) then if q = (31 : Int32) then (1 : Int32) else if r = (31457203 : Int32) then (1 : Int32) else if r = (30404531 : Int32) then (1 : Int32) else if (rK_isCodeMask r) = (0 : Int32) then (0 : Int32) else (1 : Int32) else if r = (31457203 : Int32) then (1 : Int32) else if r = (30404531 : Int32) then (1 : Int32) else if (rK_isCodeMask r) = (0 : Int32) then (0 : Int32) else (1 : Int32)
set_option maxHeartbeats 4000000 in
set_option maxRecDepth 100000 in
theorem eK_mayChangeReserved (i : Nat → Int32) (a : Nat → Nat → Int32) (p q r : Int32) (tl : List am_Cl) : am_Ev sK_mayChangeReserved [.ref 18, .int p, .int q, .int r] (wX i a tl) (some (.int (rK_mayChangeReserved i a p q r))) (wX i a tl) := by
  refine am_Ev_of cwK_mayChangeReserved rfl rfl rfl (am_wp_T gdK_mayChangeReserved 400 ?_)
  refine am_split (fun h1 => ?_) (fun h1 => ?_)
  · skip
    refine am_split (fun h2 => ?_) (fun h2 => ?_)
    · skip
      exact am_ri (S := sK_mayChangeReserved) (by unfold rK_mayChangeReserved; simp only [if_pos h1, if_pos h2]; try rfl) rfl rfl rfl
    · skip
      refine am_split (fun h3 => ?_) (fun h3 => ?_)
      · skip
        exact am_ri (S := sK_mayChangeReserved) (by unfold rK_mayChangeReserved; simp only [if_pos h1, if_neg h2, if_pos h3]; try rfl) rfl rfl rfl
      · skip
        refine am_split (fun h4 => ?_) (fun h4 => ?_)
        · skip
          exact am_ri (S := sK_mayChangeReserved) (by unfold rK_mayChangeReserved; simp only [if_pos h1, if_neg h2, if_neg h3, if_pos h4]; try rfl) rfl rfl rfl
        · skip
          refine am_call (eK_isCodeMask r _) ?_
          refine am_split (fun h5 => ?_) (fun h5 => ?_)
          · skip
            exact am_ri (S := sK_mayChangeReserved) (by unfold rK_mayChangeReserved; simp only [if_pos h1, if_neg h2, if_neg h3, if_neg h4, if_pos h5]; try rfl) rfl rfl rfl
          · skip
            exact am_ri (S := sK_mayChangeReserved) (by unfold rK_mayChangeReserved; simp only [if_pos h1, if_neg h2, if_neg h3, if_neg h4, if_neg h5]; try rfl) rfl rfl rfl
  · skip
    refine am_split (fun h6 => ?_) (fun h6 => ?_)
    · skip
      exact am_ri (S := sK_mayChangeReserved) (by unfold rK_mayChangeReserved; simp only [if_neg h1, if_pos h6]; try rfl) rfl rfl rfl
    · skip
      refine am_split (fun h7 => ?_) (fun h7 => ?_)
      · skip
        exact am_ri (S := sK_mayChangeReserved) (by unfold rK_mayChangeReserved; simp only [if_neg h1, if_neg h6, if_pos h7]; try rfl) rfl rfl rfl
      · skip
        refine am_call (eK_isCodeMask r _) ?_
        refine am_split (fun h8 => ?_) (fun h8 => ?_)
        · skip
          exact am_ri (S := sK_mayChangeReserved) (by unfold rK_mayChangeReserved; simp only [if_neg h1, if_neg h6, if_neg h7, if_pos h8]; try rfl) rfl rfl rfl
        · skip
          exact am_ri (S := sK_mayChangeReserved) (by unfold rK_mayChangeReserved; simp only [if_neg h1, if_neg h6, if_neg h7, if_neg h8]; try rfl) rfl rfl rfl
theorem zoK_mayChangeReserved (i : Nat → Int32) (a : Nat → Nat → Int32) (p q r : Int32) : rK_mayChangeReserved i a p q r = 0 ∨ rK_mayChangeReserved i a p q r = 1 := by
  unfold rK_mayChangeReserved
  repeat' (first | with_reducible refine zo_ite ?_ ?_ | with_reducible exact Or.inl rfl | with_reducible exact Or.inr rfl)
noncomputable def rK_isSafe (i : Nat → Int32) (a : Nat → Nat → Int32) (p q : Int32) : Int32 := if (rF_kindOf q) = (6 : Int32) then if (26 : Int32) < (rF_firstOf (rF_kindOf q) q) then (0 : Int32) else if (rF_secondOf (rF_kindOf q) q) = (31 : Int32) then if (rF_thirdOf (rF_kindOf q) q) = (0 : Int32) then if (rK_isDataFenced i a p) = (0 : Int32) then (0 : Int32) else (1 : Int32) else (0 : Int32) else (0 : Int32) else if (rF_kindOf q) = (7 : Int32) then if (rF_secondOf (rF_kindOf q) q) = (31 : Int32) then if (rF_thirdOf (rF_kindOf q) q) = (0 : Int32) then if (rK_isDataFenced i a p) = (0 : Int32) then (0 : Int32) else (1 : Int32) else (0 : Int32) else (0 : Int32) else if (rF_kindOf q) = (8 : Int32) then (rK_mayLeadTo i a (p + (rF_thirdOf (rF_kindOf q) q))) else if (rF_kindOf q) = (9 : Int32) then (rK_mayLeadTo i a (p + (rF_thirdOf (rF_kindOf q) q))) else if (rF_kindOf q) = (10 : Int32) then (rK_mayLeadTo i a (p + (rF_thirdOf (rF_kindOf q) q))) else if (rF_kindOf q) = (11 : Int32) then if (26 : Int32) < (rF_firstOf (rF_kindOf q) q) then (0 : Int32) else if (rK_mayLeadTo i a (p + (rF_secondOf (rF_kindOf q) q))) = (0 : Int32) then (0 : Int32) else (1 : Int32) else if (rF_kindOf q) = (12 : Int32) then if (26 : Int32) < (rF_firstOf (rF_kindOf q) q) then (0 : Int32) else if (rF_secondOf (rF_kindOf q) q) = (31 : Int32) then if (rF_thirdOf (rF_kindOf q) q) = (0 : Int32) then if (rK_isCodeMask (rK_before i a p (4 : Int32))) = (0 : Int32) then (0 : Int32) else (1 : Int32) else (0 : Int32) else (0 : Int32) else if (rF_firstOf (rF_kindOf q) q) ≤ (26 : Int32) then (1 : Int32) else if (rK_mayChangeReserved i a (rF_kindOf q) (rF_firstOf (rF_kindOf q) q) q) = (0 : Int32) then (0 : Int32) else (1 : Int32)
set_option maxHeartbeats 4000000 in
set_option maxRecDepth 100000 in
theorem eK_isSafe (i : Nat → Int32) (a : Nat → Nat → Int32) (p q : Int32) (tl : List am_Cl) : am_Ev sK_isSafe [.ref 18, .int p, .int q] (wX i a tl) (some (.int (rK_isSafe i a p q))) (wX i a tl) := by
  refine am_Ev_of cwK_isSafe rfl rfl rfl (am_wp_T gdK_isSafe 400 ?_)
  refine am_call (eF_kindOf q _) ?_
  refine am_call (eF_firstOf (rF_kindOf q) q _) ?_
  refine am_call (eF_secondOf (rF_kindOf q) q _) ?_
  refine am_call (eF_thirdOf (rF_kindOf q) q _) ?_
  refine am_split (fun h1 => ?_) (fun h1 => ?_)
  · skip
    refine am_split (fun h2 => ?_) (fun h2 => ?_)
    · skip
      exact am_ri (S := sK_isSafe) (by unfold rK_isSafe; simp only [if_pos h1, if_pos h2]; try rfl) rfl rfl rfl
    · skip
      refine am_split (fun h3 => ?_) (fun h3 => ?_)
      · skip
        refine am_split (fun h4 => ?_) (fun h4 => ?_)
        · skip
          refine am_call (eK_isDataFenced i a p tl) ?_
          refine am_split (fun h5 => ?_) (fun h5 => ?_)
          · skip
            exact am_ri (S := sK_isSafe) (by unfold rK_isSafe; simp only [if_pos h1, if_neg h2, if_pos h3, if_pos h4, if_pos h5]; try rfl) rfl rfl rfl
          · skip
            exact am_ri (S := sK_isSafe) (by unfold rK_isSafe; simp only [if_pos h1, if_neg h2, if_pos h3, if_pos h4, if_neg h5]; try rfl) rfl rfl rfl
        · skip
          exact am_ri (S := sK_isSafe) (by unfold rK_isSafe; simp only [if_pos h1, if_neg h2, if_pos h3, if_neg h4]; try rfl) rfl rfl rfl
      · skip
        exact am_ri (S := sK_isSafe) (by unfold rK_isSafe; simp only [if_pos h1, if_neg h2, if_neg h3]; try rfl) rfl rfl rfl
  · skip
    refine am_split (fun h6 => ?_) (fun h6 => ?_)
    · skip
      refine am_split (fun h7 => ?_) (fun h7 => ?_)
      · skip
        refine am_split (fun h8 => ?_) (fun h8 => ?_)
        · skip
          refine am_call (eK_isDataFenced i a p tl) ?_
          refine am_split (fun h9 => ?_) (fun h9 => ?_)
          · skip
            exact am_ri (S := sK_isSafe) (by unfold rK_isSafe; simp only [if_neg h1, if_pos h6, if_pos h7, if_pos h8, if_pos h9]; try rfl) rfl rfl rfl
          · skip
            exact am_ri (S := sK_isSafe) (by unfold rK_isSafe; simp only [if_neg h1, if_pos h6, if_pos h7, if_pos h8, if_neg h9]; try rfl) rfl rfl rfl
        · skip
          exact am_ri (S := sK_isSafe) (by unfold rK_isSafe; simp only [if_neg h1, if_pos h6, if_pos h7, if_neg h8]; try rfl) rfl rfl rfl
      · skip
        exact am_ri (S := sK_isSafe) (by unfold rK_isSafe; simp only [if_neg h1, if_pos h6, if_neg h7]; try rfl) rfl rfl rfl
    · skip
      refine am_split (fun h10 => ?_) (fun h10 => ?_)
      · skip
        refine am_call (eK_mayLeadTo i a (p + (rF_thirdOf (rF_kindOf q) q)) tl) ?_
        exact am_ri (S := sK_isSafe) (by unfold rK_isSafe; simp only [if_neg h1, if_neg h6, if_pos h10]; try rfl) rfl rfl (am_nz (zoK_mayLeadTo i a (p + (rF_thirdOf (rF_kindOf q) q))))
      · skip
        refine am_split (fun h11 => ?_) (fun h11 => ?_)
        · skip
          refine am_call (eK_mayLeadTo i a (p + (rF_thirdOf (rF_kindOf q) q)) tl) ?_
          exact am_ri (S := sK_isSafe) (by unfold rK_isSafe; simp only [if_neg h1, if_neg h6, if_neg h10, if_pos h11]; try rfl) rfl rfl (am_nz (zoK_mayLeadTo i a (p + (rF_thirdOf (rF_kindOf q) q))))
        · skip
          refine am_split (fun h12 => ?_) (fun h12 => ?_)
          · skip
            refine am_call (eK_mayLeadTo i a (p + (rF_thirdOf (rF_kindOf q) q)) tl) ?_
            exact am_ri (S := sK_isSafe) (by unfold rK_isSafe; simp only [if_neg h1, if_neg h6, if_neg h10, if_neg h11, if_pos h12]; try rfl) rfl rfl (am_nz (zoK_mayLeadTo i a (p + (rF_thirdOf (rF_kindOf q) q))))
          · skip
            refine am_split (fun h13 => ?_) (fun h13 => ?_)
            · skip
              refine am_split (fun h14 => ?_) (fun h14 => ?_)
              · skip
                exact am_ri (S := sK_isSafe) (by unfold rK_isSafe; simp only [if_neg h1, if_neg h6, if_neg h10, if_neg h11, if_neg h12, if_pos h13, if_pos h14]; try rfl) rfl rfl rfl
              · skip
                refine am_call (eK_mayLeadTo i a (p + (rF_secondOf (rF_kindOf q) q)) tl) ?_
                refine am_split (fun h15 => ?_) (fun h15 => ?_)
                · skip
                  exact am_ri (S := sK_isSafe) (by unfold rK_isSafe; simp only [if_neg h1, if_neg h6, if_neg h10, if_neg h11, if_neg h12, if_pos h13, if_neg h14, if_pos h15]; try rfl) rfl rfl rfl
                · skip
                  exact am_ri (S := sK_isSafe) (by unfold rK_isSafe; simp only [if_neg h1, if_neg h6, if_neg h10, if_neg h11, if_neg h12, if_pos h13, if_neg h14, if_neg h15]; try rfl) rfl rfl rfl
            · skip
              refine am_split (fun h16 => ?_) (fun h16 => ?_)
              · skip
                refine am_split (fun h17 => ?_) (fun h17 => ?_)
                · skip
                  exact am_ri (S := sK_isSafe) (by unfold rK_isSafe; simp only [if_neg h1, if_neg h6, if_neg h10, if_neg h11, if_neg h12, if_neg h13, if_pos h16, if_pos h17]; try rfl) rfl rfl rfl
                · skip
                  refine am_split (fun h18 => ?_) (fun h18 => ?_)
                  · skip
                    refine am_split (fun h19 => ?_) (fun h19 => ?_)
                    · skip
                      refine am_call (eK_before i a p (4 : Int32) tl) ?_
                      refine am_call (eK_isCodeMask (rK_before i a p (4 : Int32)) _) ?_
                      refine am_split (fun h20 => ?_) (fun h20 => ?_)
                      · skip
                        exact am_ri (S := sK_isSafe) (by unfold rK_isSafe; simp only [if_neg h1, if_neg h6, if_neg h10, if_neg h11, if_neg h12, if_neg h13, if_pos h16, if_neg h17, if_pos h18, if_pos h19, if_pos h20]; try rfl) rfl rfl rfl
                      · skip
                        exact am_ri (S := sK_isSafe) (by unfold rK_isSafe; simp only [if_neg h1, if_neg h6, if_neg h10, if_neg h11, if_neg h12, if_neg h13, if_pos h16, if_neg h17, if_pos h18, if_pos h19, if_neg h20]; try rfl) rfl rfl rfl
                    · skip
                      exact am_ri (S := sK_isSafe) (by unfold rK_isSafe; simp only [if_neg h1, if_neg h6, if_neg h10, if_neg h11, if_neg h12, if_neg h13, if_pos h16, if_neg h17, if_pos h18, if_neg h19]; try rfl) rfl rfl rfl
                  · skip
                    exact am_ri (S := sK_isSafe) (by unfold rK_isSafe; simp only [if_neg h1, if_neg h6, if_neg h10, if_neg h11, if_neg h12, if_neg h13, if_pos h16, if_neg h17, if_neg h18]; try rfl) rfl rfl rfl
              · skip
                refine am_split (fun h21 => ?_) (fun h21 => ?_)
                · skip
                  exact am_ri (S := sK_isSafe) (by unfold rK_isSafe; simp only [if_neg h1, if_neg h6, if_neg h10, if_neg h11, if_neg h12, if_neg h13, if_neg h16, if_pos h21]; try rfl) rfl rfl rfl
                · skip
                  refine am_call (eK_mayChangeReserved i a (rF_kindOf q) (rF_firstOf (rF_kindOf q) q) q tl) ?_
                  refine am_split (fun h22 => ?_) (fun h22 => ?_)
                  · skip
                    exact am_ri (S := sK_isSafe) (by unfold rK_isSafe; simp only [if_neg h1, if_neg h6, if_neg h10, if_neg h11, if_neg h12, if_neg h13, if_neg h16, if_neg h21, if_pos h22]; try rfl) rfl rfl rfl
                  · skip
                    exact am_ri (S := sK_isSafe) (by unfold rK_isSafe; simp only [if_neg h1, if_neg h6, if_neg h10, if_neg h11, if_neg h12, if_neg h13, if_neg h16, if_neg h21, if_neg h22]; try rfl) rfl rfl rfl
theorem zoK_isSafe (i : Nat → Int32) (a : Nat → Nat → Int32) (p q : Int32) : rK_isSafe i a p q = 0 ∨ rK_isSafe i a p q = 1 := by
  unfold rK_isSafe
  repeat' (first | with_reducible refine zo_ite ?_ ?_ | with_reducible exact zoK_mayLeadTo .. | with_reducible exact Or.inl rfl | with_reducible exact Or.inr rfl)
noncomputable def iM_begin (i : Nat → Int32) (a : Nat → Nat → Int32) : Nat → Int32 := (sI i (48 : Int32) 11)
noncomputable def aM_begin (i : Nat → Int32) (a : Nat → Nat → Int32) : Nat → Nat → Int32 := (aU_set_M i (aU_set_M i (aU_set_M i a (27 : Int32) (240 : Int32)) (28 : Int32) (4096 : Int32)) (29 : Int32) (60 : Int32))
set_option maxHeartbeats 4000000 in
set_option maxRecDepth 100000 in
theorem eM_begin (i : Nat → Int32) (a : Nat → Nat → Int32) (tl : List am_Cl) : am_Ev sM_begin [.ref 22] (wX i a tl) none (wX (iM_begin i a ) (aM_begin i a ) tl) := by
  refine am_Ev_of cwM_begin rfl rfl rfl (am_wp_T gdM_begin 400 ?_)
  refine am_call (eU_set_M i a (27 : Int32) (240 : Int32) tl) ?_
  refine am_call (eU_set_M i (aU_set_M i a (27 : Int32) (240 : Int32)) (28 : Int32) (4096 : Int32) tl) ?_
  refine am_call (eU_set_M i (aU_set_M i (aU_set_M i a (27 : Int32) (240 : Int32)) (28 : Int32) (4096 : Int32)) (29 : Int32) (60 : Int32) tl) ?_
  exact am_rv (S := sM_begin) rfl rfl
noncomputable def iM_comeBack (i : Nat → Int32) (a : Nat → Nat → Int32) : Nat → Int32 := (sI i ((rU_get_M i a (1 : Int32)) &&& (240 : Int32)) 11)
set_option maxHeartbeats 4000000 in
set_option maxRecDepth 100000 in
theorem eM_comeBack (i : Nat → Int32) (a : Nat → Nat → Int32) (tl : List am_Cl) : am_Ev sM_comeBack [.ref 22] (wX i a tl) none (wX (iM_comeBack i a ) a tl) := by
  refine am_Ev_of cwM_comeBack rfl rfl rfl (am_wp_T gdM_comeBack 400 ?_)
  refine am_call (eU_get_M i a (1 : Int32) tl) ?_
  exact am_rv (S := sM_comeBack) rfl rfl
noncomputable def rM_stepInCode (i : Nat → Int32) (a : Nat → Nat → Int32) (p : Int32) : Int32 := if p < (48 : Int32) then (2 : Int32) else if (i 5) ≤ p then (2 : Int32) else if (p - p / (2 : Int32) * (2 : Int32)) = (0 : Int32) then if (rF_kindOf (rC_fetch i a p)) = (-1 : Int32) then (3 : Int32) else if (rF_kindOf (rC_fetch i a p)) = (6 : Int32) then if (rU_moves_M i a (rF_kindOf (rC_fetch i a p)) (rF_firstOf (rF_kindOf (rC_fetch i a p)) (rC_fetch i a p)) (rF_secondOf (rF_kindOf (rC_fetch i a p)) (rC_fetch i a p)) (rF_thirdOf (rF_kindOf (rC_fetch i a p)) (rC_fetch i a p))) = (0 : Int32) then (4 : Int32) else (0 : Int32) else if (rF_kindOf (rC_fetch i a p)) = (7 : Int32) then if (rU_moves_M i a (rF_kindOf (rC_fetch i a p)) (rF_firstOf (rF_kindOf (rC_fetch i a p)) (rC_fetch i a p)) (rF_secondOf (rF_kindOf (rC_fetch i a p)) (rC_fetch i a p)) (rF_thirdOf (rF_kindOf (rC_fetch i a p)) (rC_fetch i a p))) = (0 : Int32) then (4 : Int32) else (0 : Int32) else if (rF_kindOf (rC_fetch i a p)) = (8 : Int32) then if (rU_branches_M i a (rF_kindOf (rC_fetch i a p)) (rF_firstOf (rF_kindOf (rC_fetch i a p)) (rC_fetch i a p)) (rF_secondOf (rF_kindOf (rC_fetch i a p)) (rC_fetch i a p))) = (0 : Int32) then (0 : Int32) else (0 : Int32) else if (rF_kindOf (rC_fetch i a p)) = (9 : Int32) then if (rU_branches_M i a (rF_kindOf (rC_fetch i a p)) (rF_firstOf (rF_kindOf (rC_fetch i a p)) (rC_fetch i a p)) (rF_secondOf (rF_kindOf (rC_fetch i a p)) (rC_fetch i a p))) = (0 : Int32) then (0 : Int32) else (0 : Int32) else if (rF_kindOf (rC_fetch i a p)) = (10 : Int32) then if (rU_branches_M i a (rF_kindOf (rC_fetch i a p)) (rF_firstOf (rF_kindOf (rC_fetch i a p)) (rC_fetch i a p)) (rF_secondOf (rF_kindOf (rC_fetch i a p)) (rC_fetch i a p))) = (0 : Int32) then (0 : Int32) else (0 : Int32) else if (rF_kindOf (rC_fetch i a p)) = (11 : Int32) then (0 : Int32) else if (rF_kindOf (rC_fetch i a p)) = (12 : Int32) then (0 : Int32) else (0 : Int32) else (2 : Int32)
noncomputable def iM_stepInCode (i : Nat → Int32) (a : Nat → Nat → Int32) (p : Int32) : Nat → Int32 := if p < (48 : Int32) then i else if (i 5) ≤ p then i else if (p - p / (2 : Int32) * (2 : Int32)) = (0 : Int32) then if (rF_kindOf (rC_fetch i a p)) = (-1 : Int32) then i else if (rF_kindOf (rC_fetch i a p)) = (6 : Int32) then if (rU_moves_M i a (rF_kindOf (rC_fetch i a p)) (rF_firstOf (rF_kindOf (rC_fetch i a p)) (rC_fetch i a p)) (rF_secondOf (rF_kindOf (rC_fetch i a p)) (rC_fetch i a p)) (rF_thirdOf (rF_kindOf (rC_fetch i a p)) (rC_fetch i a p))) = (0 : Int32) then i else (sI i (p + (rF_sizeOf (rC_fetch i a p))) 11) else if (rF_kindOf (rC_fetch i a p)) = (7 : Int32) then if (rU_moves_M i a (rF_kindOf (rC_fetch i a p)) (rF_firstOf (rF_kindOf (rC_fetch i a p)) (rC_fetch i a p)) (rF_secondOf (rF_kindOf (rC_fetch i a p)) (rC_fetch i a p)) (rF_thirdOf (rF_kindOf (rC_fetch i a p)) (rC_fetch i a p))) = (0 : Int32) then i else (sI i (p + (rF_sizeOf (rC_fetch i a p))) 11) else if (rF_kindOf (rC_fetch i a p)) = (8 : Int32) then if (rU_branches_M i a (rF_kindOf (rC_fetch i a p)) (rF_firstOf (rF_kindOf (rC_fetch i a p)) (rC_fetch i a p)) (rF_secondOf (rF_kindOf (rC_fetch i a p)) (rC_fetch i a p))) = (0 : Int32) then (sI i (p + (rF_sizeOf (rC_fetch i a p))) 11) else (sI i (p + (rF_thirdOf (rF_kindOf (rC_fetch i a p)) (rC_fetch i a p))) 11) else if (rF_kindOf (rC_fetch i a p)) = (9 : Int32) then if (rU_branches_M i a (rF_kindOf (rC_fetch i a p)) (rF_firstOf (rF_kindOf (rC_fetch i a p)) (rC_fetch i a p)) (rF_secondOf (rF_kindOf (rC_fetch i a p)) (rC_fetch i a p))) = (0 : Int32) then (sI i (p + (rF_sizeOf (rC_fetch i a p))) 11) else (sI i (p + (rF_thirdOf (rF_kindOf (rC_fetch i a p)) (rC_fetch i a p))) 11) else if (rF_kindOf (rC_fetch i a p)) = (10 : Int32) then if (rU_branches_M i a (rF_kindOf (rC_fetch i a p)) (rF_firstOf (rF_kindOf (rC_fetch i a p)) (rC_fetch i a p)) (rF_secondOf (rF_kindOf (rC_fetch i a p)) (rC_fetch i a p))) = (0 : Int32) then (sI i (p + (rF_sizeOf (rC_fetch i a p))) 11) else (sI i (p + (rF_thirdOf (rF_kindOf (rC_fetch i a p)) (rC_fetch i a p))) 11) else if (rF_kindOf (rC_fetch i a p)) = (11 : Int32) then (sI i (p + (rF_secondOf (rF_kindOf (rC_fetch i a p)) (rC_fetch i a p))) 11) else if (rF_kindOf (rC_fetch i a p)) = (12 : Int32) then (sI i (((rU_get_M i a (rF_secondOf (rF_kindOf (rC_fetch i a p)) (rC_fetch i a p))) + (rF_thirdOf (rF_kindOf (rC_fetch i a p)) (rC_fetch i a p))) &&& (-2 : Int32)) 11) else (sI i (p + (rF_sizeOf (rC_fetch i a p))) 11) else i
noncomputable def aM_stepInCode (i : Nat → Int32) (a : Nat → Nat → Int32) (p : Int32) : Nat → Nat → Int32 := if p < (48 : Int32) then a else if (i 5) ≤ p then a else if (p - p / (2 : Int32) * (2 : Int32)) = (0 : Int32) then if (rF_kindOf (rC_fetch i a p)) = (-1 : Int32) then a else if (rF_kindOf (rC_fetch i a p)) = (6 : Int32) then if (rU_moves_M i a (rF_kindOf (rC_fetch i a p)) (rF_firstOf (rF_kindOf (rC_fetch i a p)) (rC_fetch i a p)) (rF_secondOf (rF_kindOf (rC_fetch i a p)) (rC_fetch i a p)) (rF_thirdOf (rF_kindOf (rC_fetch i a p)) (rC_fetch i a p))) = (0 : Int32) then (aU_moves_M i a (rF_kindOf (rC_fetch i a p)) (rF_firstOf (rF_kindOf (rC_fetch i a p)) (rC_fetch i a p)) (rF_secondOf (rF_kindOf (rC_fetch i a p)) (rC_fetch i a p)) (rF_thirdOf (rF_kindOf (rC_fetch i a p)) (rC_fetch i a p))) else (aU_moves_M i a (rF_kindOf (rC_fetch i a p)) (rF_firstOf (rF_kindOf (rC_fetch i a p)) (rC_fetch i a p)) (rF_secondOf (rF_kindOf (rC_fetch i a p)) (rC_fetch i a p)) (rF_thirdOf (rF_kindOf (rC_fetch i a p)) (rC_fetch i a p))) else if (rF_kindOf (rC_fetch i a p)) = (7 : Int32) then if (rU_moves_M i a (rF_kindOf (rC_fetch i a p)) (rF_firstOf (rF_kindOf (rC_fetch i a p)) (rC_fetch i a p)) (rF_secondOf (rF_kindOf (rC_fetch i a p)) (rC_fetch i a p)) (rF_thirdOf (rF_kindOf (rC_fetch i a p)) (rC_fetch i a p))) = (0 : Int32) then (aU_moves_M i a (rF_kindOf (rC_fetch i a p)) (rF_firstOf (rF_kindOf (rC_fetch i a p)) (rC_fetch i a p)) (rF_secondOf (rF_kindOf (rC_fetch i a p)) (rC_fetch i a p)) (rF_thirdOf (rF_kindOf (rC_fetch i a p)) (rC_fetch i a p))) else (aU_moves_M i a (rF_kindOf (rC_fetch i a p)) (rF_firstOf (rF_kindOf (rC_fetch i a p)) (rC_fetch i a p)) (rF_secondOf (rF_kindOf (rC_fetch i a p)) (rC_fetch i a p)) (rF_thirdOf (rF_kindOf (rC_fetch i a p)) (rC_fetch i a p))) else if (rF_kindOf (rC_fetch i a p)) = (8 : Int32) then if (rU_branches_M i a (rF_kindOf (rC_fetch i a p)) (rF_firstOf (rF_kindOf (rC_fetch i a p)) (rC_fetch i a p)) (rF_secondOf (rF_kindOf (rC_fetch i a p)) (rC_fetch i a p))) = (0 : Int32) then a else a else if (rF_kindOf (rC_fetch i a p)) = (9 : Int32) then if (rU_branches_M i a (rF_kindOf (rC_fetch i a p)) (rF_firstOf (rF_kindOf (rC_fetch i a p)) (rC_fetch i a p)) (rF_secondOf (rF_kindOf (rC_fetch i a p)) (rC_fetch i a p))) = (0 : Int32) then a else a else if (rF_kindOf (rC_fetch i a p)) = (10 : Int32) then if (rU_branches_M i a (rF_kindOf (rC_fetch i a p)) (rF_firstOf (rF_kindOf (rC_fetch i a p)) (rC_fetch i a p)) (rF_secondOf (rF_kindOf (rC_fetch i a p)) (rC_fetch i a p))) = (0 : Int32) then a else a else if (rF_kindOf (rC_fetch i a p)) = (11 : Int32) then (aU_set_M (sI i (p + (rF_secondOf (rF_kindOf (rC_fetch i a p)) (rC_fetch i a p))) 11) a (rF_firstOf (rF_kindOf (rC_fetch i a p)) (rC_fetch i a p)) (p + (rF_sizeOf (rC_fetch i a p)))) else if (rF_kindOf (rC_fetch i a p)) = (12 : Int32) then (aU_set_M (sI i (((rU_get_M i a (rF_secondOf (rF_kindOf (rC_fetch i a p)) (rC_fetch i a p))) + (rF_thirdOf (rF_kindOf (rC_fetch i a p)) (rC_fetch i a p))) &&& (-2 : Int32)) 11) a (rF_firstOf (rF_kindOf (rC_fetch i a p)) (rC_fetch i a p)) (p + (rF_sizeOf (rC_fetch i a p)))) else (aU_compute_M i a (rF_kindOf (rC_fetch i a p)) (rF_firstOf (rF_kindOf (rC_fetch i a p)) (rC_fetch i a p)) (rF_secondOf (rF_kindOf (rC_fetch i a p)) (rC_fetch i a p)) (rF_thirdOf (rF_kindOf (rC_fetch i a p)) (rC_fetch i a p))) else a
set_option maxHeartbeats 4000000 in
set_option maxRecDepth 100000 in
theorem eM_stepInCode (i : Nat → Int32) (a : Nat → Nat → Int32) (p : Int32) (tl : List am_Cl) : am_Ev sM_stepInCode [.ref 22, .int p] (wX i a tl) (some (.int (rM_stepInCode i a p))) (wX (iM_stepInCode i a p) (aM_stepInCode i a p) tl) := by
  refine am_Ev_of cwM_stepInCode rfl rfl rfl (am_wp_T gdM_stepInCode 400 ?_)
  refine am_split (fun h1 => ?_) (fun h1 => ?_)
  · skip
    exact am_ri (S := sM_stepInCode) (by unfold rM_stepInCode; simp only [if_pos h1]; try rfl) (by unfold iM_stepInCode aM_stepInCode; simp only [if_pos h1]; try rfl) rfl rfl
  · skip
    refine am_split (fun h2 => ?_) (fun h2 => ?_)
    · skip
      exact am_ri (S := sM_stepInCode) (by unfold rM_stepInCode; simp only [if_neg h1, if_pos h2]; try rfl) (by unfold iM_stepInCode aM_stepInCode; simp only [if_neg h1, if_pos h2]; try rfl) rfl rfl
    · skip
      refine am_split (fun h3 => ?_) (fun h3 => ?_)
      · skip
        refine am_call (eC_fetch i a p tl) ?_
        refine am_call (eF_kindOf (rC_fetch i a p) _) ?_
        refine am_split (fun h4 => ?_) (fun h4 => ?_)
        · skip
          exact am_ri (S := sM_stepInCode) (by unfold rM_stepInCode; simp only [if_neg h1, if_neg h2, if_pos h3, if_pos h4]; try rfl) (by unfold iM_stepInCode aM_stepInCode; simp only [if_neg h1, if_neg h2, if_pos h3, if_pos h4]; try rfl) rfl rfl
        · skip
          refine am_call (eF_firstOf (rF_kindOf (rC_fetch i a p)) (rC_fetch i a p) _) ?_
          refine am_call (eF_secondOf (rF_kindOf (rC_fetch i a p)) (rC_fetch i a p) _) ?_
          refine am_call (eF_thirdOf (rF_kindOf (rC_fetch i a p)) (rC_fetch i a p) _) ?_
          refine am_call (eF_sizeOf (rC_fetch i a p) _) ?_
          refine am_split (fun h5 => ?_) (fun h5 => ?_)
          · skip
            refine am_call (eU_moves_M i a (rF_kindOf (rC_fetch i a p)) (rF_firstOf (rF_kindOf (rC_fetch i a p)) (rC_fetch i a p)) (rF_secondOf (rF_kindOf (rC_fetch i a p)) (rC_fetch i a p)) (rF_thirdOf (rF_kindOf (rC_fetch i a p)) (rC_fetch i a p)) tl) ?_
            refine am_split (fun h6 => ?_) (fun h6 => ?_)
            · skip
              exact am_ri (S := sM_stepInCode) (by unfold rM_stepInCode; simp only [if_neg h1, if_neg h2, if_pos h3, if_neg h4, if_pos h5, if_pos h6]; try rfl) (by unfold iM_stepInCode aM_stepInCode; simp only [if_neg h1, if_neg h2, if_pos h3, if_neg h4, if_pos h5, if_pos h6]; try rfl) rfl rfl
            · skip
              exact am_ri (S := sM_stepInCode) (by unfold rM_stepInCode; simp only [if_neg h1, if_neg h2, if_pos h3, if_neg h4, if_pos h5, if_neg h6]; try rfl) (by unfold iM_stepInCode aM_stepInCode; simp only [if_neg h1, if_neg h2, if_pos h3, if_neg h4, if_pos h5, if_neg h6]; try rfl) rfl rfl
          · skip
            refine am_split (fun h7 => ?_) (fun h7 => ?_)
            · skip
              refine am_call (eU_moves_M i a (rF_kindOf (rC_fetch i a p)) (rF_firstOf (rF_kindOf (rC_fetch i a p)) (rC_fetch i a p)) (rF_secondOf (rF_kindOf (rC_fetch i a p)) (rC_fetch i a p)) (rF_thirdOf (rF_kindOf (rC_fetch i a p)) (rC_fetch i a p)) tl) ?_
              refine am_split (fun h8 => ?_) (fun h8 => ?_)
              · skip
                exact am_ri (S := sM_stepInCode) (by unfold rM_stepInCode; simp only [if_neg h1, if_neg h2, if_pos h3, if_neg h4, if_neg h5, if_pos h7, if_pos h8]; try rfl) (by unfold iM_stepInCode aM_stepInCode; simp only [if_neg h1, if_neg h2, if_pos h3, if_neg h4, if_neg h5, if_pos h7, if_pos h8]; try rfl) rfl rfl
              · skip
                exact am_ri (S := sM_stepInCode) (by unfold rM_stepInCode; simp only [if_neg h1, if_neg h2, if_pos h3, if_neg h4, if_neg h5, if_pos h7, if_neg h8]; try rfl) (by unfold iM_stepInCode aM_stepInCode; simp only [if_neg h1, if_neg h2, if_pos h3, if_neg h4, if_neg h5, if_pos h7, if_neg h8]; try rfl) rfl rfl
            · skip
              refine am_split (fun h9 => ?_) (fun h9 => ?_)
              · skip
                refine am_call (eU_branches_M i a (rF_kindOf (rC_fetch i a p)) (rF_firstOf (rF_kindOf (rC_fetch i a p)) (rC_fetch i a p)) (rF_secondOf (rF_kindOf (rC_fetch i a p)) (rC_fetch i a p)) tl) ?_
                refine am_split (fun h10 => ?_) (fun h10 => ?_)
                · skip
                  exact am_ri (S := sM_stepInCode) (by unfold rM_stepInCode; simp only [if_neg h1, if_neg h2, if_pos h3, if_neg h4, if_neg h5, if_neg h7, if_pos h9, if_pos h10]; try rfl) (by unfold iM_stepInCode aM_stepInCode; simp only [if_neg h1, if_neg h2, if_pos h3, if_neg h4, if_neg h5, if_neg h7, if_pos h9, if_pos h10]; try rfl) rfl rfl
                · skip
                  exact am_ri (S := sM_stepInCode) (by unfold rM_stepInCode; simp only [if_neg h1, if_neg h2, if_pos h3, if_neg h4, if_neg h5, if_neg h7, if_pos h9, if_neg h10]; try rfl) (by unfold iM_stepInCode aM_stepInCode; simp only [if_neg h1, if_neg h2, if_pos h3, if_neg h4, if_neg h5, if_neg h7, if_pos h9, if_neg h10]; try rfl) rfl rfl
              · skip
                refine am_split (fun h11 => ?_) (fun h11 => ?_)
                · skip
                  refine am_call (eU_branches_M i a (rF_kindOf (rC_fetch i a p)) (rF_firstOf (rF_kindOf (rC_fetch i a p)) (rC_fetch i a p)) (rF_secondOf (rF_kindOf (rC_fetch i a p)) (rC_fetch i a p)) tl) ?_
                  refine am_split (fun h12 => ?_) (fun h12 => ?_)
                  · skip
                    exact am_ri (S := sM_stepInCode) (by unfold rM_stepInCode; simp only [if_neg h1, if_neg h2, if_pos h3, if_neg h4, if_neg h5, if_neg h7, if_neg h9, if_pos h11, if_pos h12]; try rfl) (by unfold iM_stepInCode aM_stepInCode; simp only [if_neg h1, if_neg h2, if_pos h3, if_neg h4, if_neg h5, if_neg h7, if_neg h9, if_pos h11, if_pos h12]; try rfl) rfl rfl
                  · skip
                    exact am_ri (S := sM_stepInCode) (by unfold rM_stepInCode; simp only [if_neg h1, if_neg h2, if_pos h3, if_neg h4, if_neg h5, if_neg h7, if_neg h9, if_pos h11, if_neg h12]; try rfl) (by unfold iM_stepInCode aM_stepInCode; simp only [if_neg h1, if_neg h2, if_pos h3, if_neg h4, if_neg h5, if_neg h7, if_neg h9, if_pos h11, if_neg h12]; try rfl) rfl rfl
                · skip
                  refine am_split (fun h13 => ?_) (fun h13 => ?_)
                  · skip
                    refine am_call (eU_branches_M i a (rF_kindOf (rC_fetch i a p)) (rF_firstOf (rF_kindOf (rC_fetch i a p)) (rC_fetch i a p)) (rF_secondOf (rF_kindOf (rC_fetch i a p)) (rC_fetch i a p)) tl) ?_
                    refine am_split (fun h14 => ?_) (fun h14 => ?_)
                    · skip
                      exact am_ri (S := sM_stepInCode) (by unfold rM_stepInCode; simp only [if_neg h1, if_neg h2, if_pos h3, if_neg h4, if_neg h5, if_neg h7, if_neg h9, if_neg h11, if_pos h13, if_pos h14]; try rfl) (by unfold iM_stepInCode aM_stepInCode; simp only [if_neg h1, if_neg h2, if_pos h3, if_neg h4, if_neg h5, if_neg h7, if_neg h9, if_neg h11, if_pos h13, if_pos h14]; try rfl) rfl rfl
                    · skip
                      exact am_ri (S := sM_stepInCode) (by unfold rM_stepInCode; simp only [if_neg h1, if_neg h2, if_pos h3, if_neg h4, if_neg h5, if_neg h7, if_neg h9, if_neg h11, if_pos h13, if_neg h14]; try rfl) (by unfold iM_stepInCode aM_stepInCode; simp only [if_neg h1, if_neg h2, if_pos h3, if_neg h4, if_neg h5, if_neg h7, if_neg h9, if_neg h11, if_pos h13, if_neg h14]; try rfl) rfl rfl
                  · skip
                    refine am_split (fun h15 => ?_) (fun h15 => ?_)
                    · skip
                      refine am_call (eU_set_M (sI i (p + (rF_secondOf (rF_kindOf (rC_fetch i a p)) (rC_fetch i a p))) 11) a (rF_firstOf (rF_kindOf (rC_fetch i a p)) (rC_fetch i a p)) (p + (rF_sizeOf (rC_fetch i a p))) tl) ?_
                      exact am_ri (S := sM_stepInCode) (by unfold rM_stepInCode; simp only [if_neg h1, if_neg h2, if_pos h3, if_neg h4, if_neg h5, if_neg h7, if_neg h9, if_neg h11, if_neg h13, if_pos h15]; try rfl) (by unfold iM_stepInCode aM_stepInCode; simp only [if_neg h1, if_neg h2, if_pos h3, if_neg h4, if_neg h5, if_neg h7, if_neg h9, if_neg h11, if_neg h13, if_pos h15]; try rfl) rfl rfl
                    · skip
                      refine am_split (fun h16 => ?_) (fun h16 => ?_)
                      · skip
                        refine am_call (eU_get_M i a (rF_secondOf (rF_kindOf (rC_fetch i a p)) (rC_fetch i a p)) tl) ?_
                        refine am_call (eU_set_M (sI i (((rU_get_M i a (rF_secondOf (rF_kindOf (rC_fetch i a p)) (rC_fetch i a p))) + (rF_thirdOf (rF_kindOf (rC_fetch i a p)) (rC_fetch i a p))) &&& (-2 : Int32)) 11) a (rF_firstOf (rF_kindOf (rC_fetch i a p)) (rC_fetch i a p)) (p + (rF_sizeOf (rC_fetch i a p))) tl) ?_
                        exact am_ri (S := sM_stepInCode) (by unfold rM_stepInCode; simp only [if_neg h1, if_neg h2, if_pos h3, if_neg h4, if_neg h5, if_neg h7, if_neg h9, if_neg h11, if_neg h13, if_neg h15, if_pos h16]; try rfl) (by unfold iM_stepInCode aM_stepInCode; simp only [if_neg h1, if_neg h2, if_pos h3, if_neg h4, if_neg h5, if_neg h7, if_neg h9, if_neg h11, if_neg h13, if_neg h15, if_pos h16]; try rfl) rfl rfl
                      · skip
                        refine am_call (eU_compute_M i a (rF_kindOf (rC_fetch i a p)) (rF_firstOf (rF_kindOf (rC_fetch i a p)) (rC_fetch i a p)) (rF_secondOf (rF_kindOf (rC_fetch i a p)) (rC_fetch i a p)) (rF_thirdOf (rF_kindOf (rC_fetch i a p)) (rC_fetch i a p)) tl) ?_
                        exact am_ri (S := sM_stepInCode) (by unfold rM_stepInCode; simp only [if_neg h1, if_neg h2, if_pos h3, if_neg h4, if_neg h5, if_neg h7, if_neg h9, if_neg h11, if_neg h13, if_neg h15, if_neg h16]; try rfl) (by unfold iM_stepInCode aM_stepInCode; simp only [if_neg h1, if_neg h2, if_pos h3, if_neg h4, if_neg h5, if_neg h7, if_neg h9, if_neg h11, if_neg h13, if_neg h15, if_neg h16]; try rfl) rfl rfl
      · skip
        exact am_ri (S := sM_stepInCode) (by unfold rM_stepInCode; simp only [if_neg h1, if_neg h2, if_neg h3]; try rfl) (by unfold iM_stepInCode aM_stepInCode; simp only [if_neg h1, if_neg h2, if_neg h3]; try rfl) rfl rfl
noncomputable def rM_step (i : Nat → Int32) (a : Nat → Nat → Int32) : Int32 := if (i 11) = (0 : Int32) then (0 : Int32) else if (i 11) = (16 : Int32) then (0 : Int32) else if (i 11) = (32 : Int32) then (1 : Int32) else (rM_stepInCode i a (i 11))
noncomputable def iM_step (i : Nat → Int32) (a : Nat → Nat → Int32) : Nat → Int32 := if (i 11) = (0 : Int32) then (iM_comeBack (iU_readInput_M i a ) (aU_readInput_M i a ) ) else if (i 11) = (16 : Int32) then (iM_comeBack (iU_writeOutput_M i a ) (aU_writeOutput_M i a ) ) else if (i 11) = (32 : Int32) then i else (iM_stepInCode i a (i 11))
noncomputable def aM_step (i : Nat → Int32) (a : Nat → Nat → Int32) : Nat → Nat → Int32 := if (i 11) = (0 : Int32) then (aU_readInput_M i a ) else if (i 11) = (16 : Int32) then (aU_writeOutput_M i a ) else if (i 11) = (32 : Int32) then a else (aM_stepInCode i a (i 11))
set_option maxHeartbeats 4000000 in
set_option maxRecDepth 100000 in
theorem eM_step (i : Nat → Int32) (a : Nat → Nat → Int32) (tl : List am_Cl) : am_Ev sM_step [.ref 22] (wX i a tl) (some (.int (rM_step i a ))) (wX (iM_step i a ) (aM_step i a ) tl) := by
  refine am_Ev_of cwM_step rfl rfl rfl (am_wp_T gdM_step 400 ?_)
  refine am_split (fun h1 => ?_) (fun h1 => ?_)
  · skip
    refine am_call (eU_readInput_M i a  tl) ?_
    refine am_call (eM_comeBack (iU_readInput_M i a ) (aU_readInput_M i a )  tl) ?_
    exact am_ri (S := sM_step) (by unfold rM_step; simp only [if_pos h1]; try rfl) (by unfold iM_step aM_step; simp only [if_pos h1]; try rfl) rfl rfl
  · skip
    refine am_split (fun h2 => ?_) (fun h2 => ?_)
    · skip
      refine am_call (eU_writeOutput_M i a  tl) ?_
      refine am_call (eM_comeBack (iU_writeOutput_M i a ) (aU_writeOutput_M i a )  tl) ?_
      exact am_ri (S := sM_step) (by unfold rM_step; simp only [if_neg h1, if_pos h2]; try rfl) (by unfold iM_step aM_step; simp only [if_neg h1, if_pos h2]; try rfl) rfl rfl
    · skip
      refine am_split (fun h3 => ?_) (fun h3 => ?_)
      · skip
        exact am_ri (S := sM_step) (by unfold rM_step; simp only [if_neg h1, if_neg h2, if_pos h3]; try rfl) (by unfold iM_step aM_step; simp only [if_neg h1, if_neg h2, if_pos h3]; try rfl) rfl rfl
      · skip
        refine am_call (eM_stepInCode i a (i 11) tl) ?_
        exact am_ri (S := sM_step) (by unfold rM_step; simp only [if_neg h1, if_neg h2, if_neg h3]; try rfl) (by unfold iM_step aM_step; simp only [if_neg h1, if_neg h2, if_neg h3]; try rfl) rfl rfl
noncomputable def iT_begin (i : Nat → Int32) (a : Nat → Nat → Int32) : Nat → Int32 := (sI i (0 : Int32) 15)
set_option maxHeartbeats 4000000 in
set_option maxRecDepth 100000 in
theorem eT_begin (i : Nat → Int32) (a : Nat → Nat → Int32) (tl : List am_Cl) : am_Ev sT_begin [.ref 26] (wX i a tl) none (wX (iT_begin i a ) a tl) := by
  refine am_Ev_of cwT_begin rfl rfl rfl (am_wp_T gdT_begin 400 ?_)
  exact am_rv (S := sT_begin) rfl rfl
noncomputable def rT_serve (i : Nat → Int32) (a : Nat → Nat → Int32) (p q : Int32) : Int32 := if p = (2 : Int32) then (1 : Int32) else if p = (0 : Int32) then (0 : Int32) else (0 : Int32)
noncomputable def iT_serve (i : Nat → Int32) (a : Nat → Nat → Int32) (p q : Int32) : Nat → Int32 := if p = (2 : Int32) then i else if p = (0 : Int32) then (sI (iU_readInput_T i a ) q 15) else (sI (iU_writeOutput_T i a ) q 15)
noncomputable def aT_serve (i : Nat → Int32) (a : Nat → Nat → Int32) (p q : Int32) : Nat → Nat → Int32 := if p = (2 : Int32) then a else if p = (0 : Int32) then (aU_readInput_T i a ) else (aU_writeOutput_T i a )
set_option maxHeartbeats 4000000 in
set_option maxRecDepth 100000 in
theorem eT_serve (i : Nat → Int32) (a : Nat → Nat → Int32) (p q : Int32) (tl : List am_Cl) : am_Ev sT_serve [.ref 26, .int p, .int q] (wX i a tl) (some (.int (rT_serve i a p q))) (wX (iT_serve i a p q) (aT_serve i a p q) tl) := by
  refine am_Ev_of cwT_serve rfl rfl rfl (am_wp_T gdT_serve 400 ?_)
  refine am_split (fun h1 => ?_) (fun h1 => ?_)
  · skip
    exact am_ri (S := sT_serve) (by unfold rT_serve; simp only [if_pos h1]; try rfl) (by unfold iT_serve aT_serve; simp only [if_pos h1]; try rfl) rfl rfl
  · skip
    refine am_split (fun h2 => ?_) (fun h2 => ?_)
    · skip
      refine am_call (eU_readInput_T i a  tl) ?_
      exact am_ri (S := sT_serve) (by unfold rT_serve; simp only [if_neg h1, if_pos h2]; try rfl) (by unfold iT_serve aT_serve; simp only [if_neg h1, if_pos h2]; try rfl) rfl rfl
    · skip
      refine am_call (eU_writeOutput_T i a  tl) ?_
      exact am_ri (S := sT_serve) (by unfold rT_serve; simp only [if_neg h1, if_neg h2]; try rfl) (by unfold iT_serve aT_serve; simp only [if_neg h1, if_neg h2]; try rfl) rfl rfl
set_option maxHeartbeats 4000000 in
set_option maxRecDepth 100000 in
theorem eX_runnerOf_0 (i : Nat → Int32) (a : Nat → Nat → Int32) (tl : List am_Cl) : am_Ev sX_runnerOf [.ref 0, .int (0 : Int32)] (wX i a tl) (some (.ref 22)) (wX i a tl) := by
  refine am_Ev_of cwX_runnerOf rfl rfl rfl (am_wp_T gdX_runnerOf 400 ?_)
  refine am_split (fun _ => ?_) (fun hz => absurd (by decide) hz)
  exact am_ra (S := sX_runnerOf) rfl rfl rfl
set_option maxHeartbeats 4000000 in
set_option maxRecDepth 100000 in
theorem eX_runnerOf_1 (i : Nat → Int32) (a : Nat → Nat → Int32) (tl : List am_Cl) : am_Ev sX_runnerOf [.ref 0, .int (1 : Int32)] (wX i a tl) (some (.ref 26)) (wX i a tl) := by
  refine am_Ev_of cwX_runnerOf rfl rfl rfl (am_wp_T gdX_runnerOf 400 ?_)
  refine am_split (fun hz => absurd hz (by decide)) (fun _ => ?_)
  refine am_split (fun _ => ?_) (fun hz => absurd (by decide) hz)
  exact am_ra (S := sX_runnerOf) rfl rfl rfl
set_option maxHeartbeats 4000000 in
set_option maxRecDepth 100000 in
theorem eX_runnerOf_n (i : Nat → Int32) (a : Nat → Nat → Int32) (p : Int32) (tl : List am_Cl) (k0 : ¬ p = (0 : Int32)) (k1 : ¬ p = (1 : Int32)) : am_Ev sX_runnerOf [.ref 0, .int p] (wX i a tl) (some .null) (wX i a tl) := by
  refine am_Ev_of cwX_runnerOf rfl rfl rfl (am_wp_T gdX_runnerOf 400 ?_)
  refine am_split (fun hz => absurd hz k0) (fun _ => ?_)
  refine am_split (fun hz => absurd hz k1) (fun _ => ?_)
  exact am_ra (S := sX_runnerOf) rfl rfl rfl
noncomputable def rX_state_0 (i : Nat → Int32) (a : Nat → Nat → Int32) (q : Int32) : Int32 := if q = (0 : Int32) then (i 10) else if q = (1 : Int32) then (i 11) else if q = (2 : Int32) then (i 9) else (-1 : Int32)
set_option maxHeartbeats 4000000 in
set_option maxRecDepth 100000 in
theorem eX_state_0 (i : Nat → Int32) (a : Nat → Nat → Int32) (q : Int32) (tl : List am_Cl) : am_Ev sX_state [.ref 0, .int (0 : Int32), .int q] (wX i a tl) (some (.int (rX_state_0 i a q))) (wX i a tl) := by
  refine am_Ev_of cwX_state rfl rfl rfl (am_wp_T gdX_state 400 ?_)
  refine am_call (eX_runnerOf_0 i a  tl) ?_
  refine am_split (fun h1 => ?_) (fun h1 => ?_)
  · skip
    exact am_ri (S := sX_state) (by unfold rX_state_0; simp only [if_pos h1]; try rfl) rfl rfl rfl
  · skip
    refine am_split (fun h2 => ?_) (fun h2 => ?_)
    · skip
      exact am_ri (S := sX_state) (by unfold rX_state_0; simp only [if_neg h1, if_pos h2]; try rfl) rfl rfl rfl
    · skip
      refine am_split (fun h3 => ?_) (fun h3 => ?_)
      · skip
        exact am_ri (S := sX_state) (by unfold rX_state_0; simp only [if_neg h1, if_neg h2, if_pos h3]; try rfl) rfl rfl rfl
      · skip
        exact am_ri (S := sX_state) (by unfold rX_state_0; simp only [if_neg h1, if_neg h2, if_neg h3]; try rfl) rfl rfl rfl
noncomputable def rX_state_1 (i : Nat → Int32) (a : Nat → Nat → Int32) (q : Int32) : Int32 := if q = (0 : Int32) then (i 14) else if q = (1 : Int32) then (i 15) else if q = (2 : Int32) then (i 13) else (-1 : Int32)
set_option maxHeartbeats 4000000 in
set_option maxRecDepth 100000 in
theorem eX_state_1 (i : Nat → Int32) (a : Nat → Nat → Int32) (q : Int32) (tl : List am_Cl) : am_Ev sX_state [.ref 0, .int (1 : Int32), .int q] (wX i a tl) (some (.int (rX_state_1 i a q))) (wX i a tl) := by
  refine am_Ev_of cwX_state rfl rfl rfl (am_wp_T gdX_state 400 ?_)
  refine am_call (eX_runnerOf_1 i a  tl) ?_
  refine am_split (fun h1 => ?_) (fun h1 => ?_)
  · skip
    exact am_ri (S := sX_state) (by unfold rX_state_1; simp only [if_pos h1]; try rfl) rfl rfl rfl
  · skip
    refine am_split (fun h2 => ?_) (fun h2 => ?_)
    · skip
      exact am_ri (S := sX_state) (by unfold rX_state_1; simp only [if_neg h1, if_pos h2]; try rfl) rfl rfl rfl
    · skip
      refine am_split (fun h3 => ?_) (fun h3 => ?_)
      · skip
        exact am_ri (S := sX_state) (by unfold rX_state_1; simp only [if_neg h1, if_neg h2, if_pos h3]; try rfl) rfl rfl rfl
      · skip
        exact am_ri (S := sX_state) (by unfold rX_state_1; simp only [if_neg h1, if_neg h2, if_neg h3]; try rfl) rfl rfl rfl
noncomputable def rX_state_n (i : Nat → Int32) (a : Nat → Nat → Int32) (p q : Int32) : Int32 := (-1 : Int32)
set_option maxHeartbeats 4000000 in
set_option maxRecDepth 100000 in
theorem eX_state_n (i : Nat → Int32) (a : Nat → Nat → Int32) (p q : Int32) (tl : List am_Cl) (k0 : ¬ p = (0 : Int32)) (k1 : ¬ p = (1 : Int32)) : am_Ev sX_state [.ref 0, .int p, .int q] (wX i a tl) (some (.int (rX_state_n i a p q))) (wX i a tl) := by
  refine am_Ev_of cwX_state rfl rfl rfl (am_wp_T gdX_state 400 ?_)
  refine am_call (eX_runnerOf_n i a p tl  k0 k1) ?_
  exact am_ri (S := sX_state) rfl rfl rfl rfl
noncomputable def rX_output_0 (i : Nat → Int32) (a : Nat → Nat → Int32) (q : Int32) : Int32 := (rU_outputAt_M i a q)
set_option maxHeartbeats 4000000 in
set_option maxRecDepth 100000 in
theorem eX_output_0 (i : Nat → Int32) (a : Nat → Nat → Int32) (q : Int32) (tl : List am_Cl) : am_Ev sX_output [.ref 0, .int (0 : Int32), .int q] (wX i a tl) (some (.int (rX_output_0 i a q))) (wX i a tl) := by
  refine am_Ev_of cwX_output rfl rfl rfl (am_wp_T gdX_output 400 ?_)
  refine am_call (eX_runnerOf_0 i a  tl) ?_
  refine am_call (eU_outputAt_M i a q tl) ?_
  exact am_ri (S := sX_output) rfl rfl rfl rfl
noncomputable def rX_output_1 (i : Nat → Int32) (a : Nat → Nat → Int32) (q : Int32) : Int32 := (rU_outputAt_T i a q)
set_option maxHeartbeats 4000000 in
set_option maxRecDepth 100000 in
theorem eX_output_1 (i : Nat → Int32) (a : Nat → Nat → Int32) (q : Int32) (tl : List am_Cl) : am_Ev sX_output [.ref 0, .int (1 : Int32), .int q] (wX i a tl) (some (.int (rX_output_1 i a q))) (wX i a tl) := by
  refine am_Ev_of cwX_output rfl rfl rfl (am_wp_T gdX_output 400 ?_)
  refine am_call (eX_runnerOf_1 i a  tl) ?_
  refine am_call (eU_outputAt_T i a q tl) ?_
  exact am_ri (S := sX_output) rfl rfl rfl rfl
noncomputable def rX_output_n (i : Nat → Int32) (a : Nat → Nat → Int32) (p q : Int32) : Int32 := (0 : Int32)
set_option maxHeartbeats 4000000 in
set_option maxRecDepth 100000 in
theorem eX_output_n (i : Nat → Int32) (a : Nat → Nat → Int32) (p q : Int32) (tl : List am_Cl) (k0 : ¬ p = (0 : Int32)) (k1 : ¬ p = (1 : Int32)) : am_Ev sX_output [.ref 0, .int p, .int q] (wX i a tl) (some (.int (rX_output_n i a p q))) (wX i a tl) := by
  refine am_Ev_of cwX_output rfl rfl rfl (am_wp_T gdX_output 400 ?_)
  refine am_call (eX_runnerOf_n i a p tl  k0 k1) ?_
  exact am_ri (S := sX_output) rfl rfl rfl rfl
noncomputable def rX_register_0 (i : Nat → Int32) (a : Nat → Nat → Int32) (q : Int32) : Int32 := (rU_get_M i a q)
set_option maxHeartbeats 4000000 in
set_option maxRecDepth 100000 in
theorem eX_register_0 (i : Nat → Int32) (a : Nat → Nat → Int32) (q : Int32) (tl : List am_Cl) : am_Ev sX_register [.ref 0, .int (0 : Int32), .int q] (wX i a tl) (some (.int (rX_register_0 i a q))) (wX i a tl) := by
  refine am_Ev_of cwX_register rfl rfl rfl (am_wp_T gdX_register 400 ?_)
  refine am_call (eX_runnerOf_0 i a  tl) ?_
  refine am_call (eU_get_M i a q tl) ?_
  exact am_ri (S := sX_register) rfl rfl rfl rfl
noncomputable def rX_register_1 (i : Nat → Int32) (a : Nat → Nat → Int32) (q : Int32) : Int32 := (rU_get_T i a q)
set_option maxHeartbeats 4000000 in
set_option maxRecDepth 100000 in
theorem eX_register_1 (i : Nat → Int32) (a : Nat → Nat → Int32) (q : Int32) (tl : List am_Cl) : am_Ev sX_register [.ref 0, .int (1 : Int32), .int q] (wX i a tl) (some (.int (rX_register_1 i a q))) (wX i a tl) := by
  refine am_Ev_of cwX_register rfl rfl rfl (am_wp_T gdX_register 400 ?_)
  refine am_call (eX_runnerOf_1 i a  tl) ?_
  refine am_call (eU_get_T i a q tl) ?_
  exact am_ri (S := sX_register) rfl rfl rfl rfl
noncomputable def rX_register_n (i : Nat → Int32) (a : Nat → Nat → Int32) (p q : Int32) : Int32 := (0 : Int32)
set_option maxHeartbeats 4000000 in
set_option maxRecDepth 100000 in
theorem eX_register_n (i : Nat → Int32) (a : Nat → Nat → Int32) (p q : Int32) (tl : List am_Cl) (k0 : ¬ p = (0 : Int32)) (k1 : ¬ p = (1 : Int32)) : am_Ev sX_register [.ref 0, .int p, .int q] (wX i a tl) (some (.int (rX_register_n i a p q))) (wX i a tl) := by
  refine am_Ev_of cwX_register rfl rfl rfl (am_wp_T gdX_register 400 ?_)
  refine am_call (eX_runnerOf_n i a p tl  k0 k1) ?_
  exact am_ri (S := sX_register) rfl rfl rfl rfl
noncomputable def rX_word_0 (i : Nat → Int32) (a : Nat → Nat → Int32) (q : Int32) : Int32 := (rU_wordAt_M i a q)
set_option maxHeartbeats 4000000 in
set_option maxRecDepth 100000 in
theorem eX_word_0 (i : Nat → Int32) (a : Nat → Nat → Int32) (q : Int32) (tl : List am_Cl) : am_Ev sX_word [.ref 0, .int (0 : Int32), .int q] (wX i a tl) (some (.int (rX_word_0 i a q))) (wX i a tl) := by
  refine am_Ev_of cwX_word rfl rfl rfl (am_wp_T gdX_word 400 ?_)
  refine am_call (eX_runnerOf_0 i a  tl) ?_
  refine am_call (eU_wordAt_M i a q tl) ?_
  exact am_ri (S := sX_word) rfl rfl rfl rfl
noncomputable def rX_word_1 (i : Nat → Int32) (a : Nat → Nat → Int32) (q : Int32) : Int32 := (rU_wordAt_T i a q)
set_option maxHeartbeats 4000000 in
set_option maxRecDepth 100000 in
theorem eX_word_1 (i : Nat → Int32) (a : Nat → Nat → Int32) (q : Int32) (tl : List am_Cl) : am_Ev sX_word [.ref 0, .int (1 : Int32), .int q] (wX i a tl) (some (.int (rX_word_1 i a q))) (wX i a tl) := by
  refine am_Ev_of cwX_word rfl rfl rfl (am_wp_T gdX_word 400 ?_)
  refine am_call (eX_runnerOf_1 i a  tl) ?_
  refine am_call (eU_wordAt_T i a q tl) ?_
  exact am_ri (S := sX_word) rfl rfl rfl rfl
noncomputable def rX_word_n (i : Nat → Int32) (a : Nat → Nat → Int32) (p q : Int32) : Int32 := (0 : Int32)
set_option maxHeartbeats 4000000 in
set_option maxRecDepth 100000 in
theorem eX_word_n (i : Nat → Int32) (a : Nat → Nat → Int32) (p q : Int32) (tl : List am_Cl) (k0 : ¬ p = (0 : Int32)) (k1 : ¬ p = (1 : Int32)) : am_Ev sX_word [.ref 0, .int p, .int q] (wX i a tl) (some (.int (rX_word_n i a p q))) (wX i a tl) := by
  refine am_Ev_of cwX_word rfl rfl rfl (am_wp_T gdX_word 400 ?_)
  refine am_call (eX_runnerOf_n i a p tl  k0 k1) ?_
  exact am_ri (S := sX_word) rfl rfl rfl rfl
noncomputable def rX_encode (i : Nat → Int32) (a : Nat → Nat → Int32) (p q r s : Int32) : Int32 := if (rF_encodable p q r s) = (0 : Int32) then (-1 : Int32) else (rF_pack p q r s)
set_option maxHeartbeats 4000000 in
set_option maxRecDepth 100000 in
theorem eX_encode (i : Nat → Int32) (a : Nat → Nat → Int32) (p q r s : Int32) (tl : List am_Cl) : am_Ev sX_encode [.ref 0, .int p, .int q, .int r, .int s] (wX i a tl) (some (.int (rX_encode i a p q r s))) (wX i a tl) := by
  refine am_Ev_of cwX_encode rfl rfl rfl (am_wp_T gdX_encode 400 ?_)
  refine am_call (eF_encodable p q r s _) ?_
  refine am_split (fun h1 => ?_) (fun h1 => ?_)
  · skip
    exact am_ri (S := sX_encode) (by unfold rX_encode; simp only [if_pos h1]; try rfl) rfl rfl rfl
  · skip
    refine am_call (eF_pack p q r s _) ?_
    exact am_ri (S := sX_encode) (by unfold rX_encode; simp only [if_neg h1]; try rfl) rfl rfl rfl
noncomputable def rX_kind (i : Nat → Int32) (a : Nat → Nat → Int32) (p : Int32) : Int32 := (rF_kindOf p)
set_option maxHeartbeats 4000000 in
set_option maxRecDepth 100000 in
theorem eX_kind (i : Nat → Int32) (a : Nat → Nat → Int32) (p : Int32) (tl : List am_Cl) : am_Ev sX_kind [.ref 0, .int p] (wX i a tl) (some (.int (rX_kind i a p))) (wX i a tl) := by
  refine am_Ev_of cwX_kind rfl rfl rfl (am_wp_T gdX_kind 400 ?_)
  refine am_call (eF_kindOf p _) ?_
  exact am_ri (S := sX_kind) rfl rfl rfl rfl
noncomputable def rX_line (i : Nat → Int32) (a : Nat → Nat → Int32) (p q r s : Int32) : Int32 := if (rP_allows p q r s) = (0 : Int32) then (-1 : Int32) else if (rP_add i a p q r s) = (0 : Int32) then (-2 : Int32) else ((iP_add i a p q r s) 1)
noncomputable def iX_line (i : Nat → Int32) (a : Nat → Nat → Int32) (p q r s : Int32) : Nat → Int32 := if (rP_allows p q r s) = (0 : Int32) then i else if (rP_add i a p q r s) = (0 : Int32) then (iP_add i a p q r s) else (iP_add i a p q r s)
noncomputable def aX_line (i : Nat → Int32) (a : Nat → Nat → Int32) (p q r s : Int32) : Nat → Nat → Int32 := if (rP_allows p q r s) = (0 : Int32) then a else if (rP_add i a p q r s) = (0 : Int32) then (aP_add i a p q r s) else (aP_add i a p q r s)
set_option maxHeartbeats 4000000 in
set_option maxRecDepth 100000 in
theorem eX_line (i : Nat → Int32) (a : Nat → Nat → Int32) (p q r s : Int32) (tl : List am_Cl) : am_Ev sX_line [.ref 0, .int p, .int q, .int r, .int s] (wX i a tl) (some (.int (rX_line i a p q r s))) (wX (iX_line i a p q r s) (aX_line i a p q r s) tl) := by
  refine am_Ev_of cwX_line rfl rfl rfl (am_wp_T gdX_line 400 ?_)
  refine am_call (eP_allows p q r s _) ?_
  refine am_split (fun h1 => ?_) (fun h1 => ?_)
  · skip
    exact am_ri (S := sX_line) (by unfold rX_line; simp only [if_pos h1]; try rfl) (by unfold iX_line aX_line; simp only [if_pos h1]; try rfl) rfl rfl
  · skip
    refine am_call (eP_add i a p q r s tl) ?_
    refine am_split (fun h2 => ?_) (fun h2 => ?_)
    · skip
      exact am_ri (S := sX_line) (by unfold rX_line; simp only [if_neg h1, if_pos h2]; try rfl) (by unfold iX_line aX_line; simp only [if_neg h1, if_pos h2]; try rfl) rfl rfl
    · skip
      exact am_ri (S := sX_line) (by unfold rX_line; simp only [if_neg h1, if_neg h2]; try rfl) (by unfold iX_line aX_line; simp only [if_neg h1, if_neg h2]; try rfl) rfl rfl
noncomputable def rX_clear (i : Nat → Int32) (a : Nat → Nat → Int32) : Int32 := (i 1)
noncomputable def iX_clear (i : Nat → Int32) (a : Nat → Nat → Int32) : Nat → Int32 := (sI i (0 : Int32) 1)
set_option maxHeartbeats 4000000 in
set_option maxRecDepth 100000 in
theorem eX_clear (i : Nat → Int32) (a : Nat → Nat → Int32) (tl : List am_Cl) : am_Ev sX_clear [.ref 0] (wX i a tl) (some (.int (rX_clear i a ))) (wX (iX_clear i a ) a tl) := by
  refine am_Ev_of cwX_clear rfl rfl rfl (am_wp_T gdX_clear 400 ?_)
  exact am_ri (S := sX_clear) rfl rfl rfl rfl
noncomputable def rX_address (i : Nat → Int32) (a : Nat → Nat → Int32) (p : Int32) : Int32 := if (i 0) = (0 : Int32) then (-1 : Int32) else (rP_addressOf_b i a p)
set_option maxHeartbeats 4000000 in
set_option maxRecDepth 100000 in
theorem eX_address (i : Nat → Int32) (a : Nat → Nat → Int32) (p : Int32) (tl : List am_Cl) : am_Ev sX_address [.ref 0, .int p] (wX i a tl) (some (.int (rX_address i a p))) (wX i a tl) := by
  refine am_Ev_of cwX_address rfl rfl rfl (am_wp_T gdX_address 400 ?_)
  refine am_split (fun h1 => ?_) (fun h1 => ?_)
  · skip
    exact am_ri (S := sX_address) (by unfold rX_address; simp only [if_pos h1]; try rfl) rfl rfl rfl
  · skip
    refine am_call (eP_addressOf_b i a p tl) ?_
    exact am_ri (S := sX_address) (by unfold rX_address; simp only [if_neg h1]; try rfl) rfl rfl rfl
noncomputable def rX_poke (i : Nat → Int32) (a : Nat → Nat → Int32) (p q : Int32) : Int32 := (rC_put i a p q)
noncomputable def aX_poke (i : Nat → Int32) (a : Nat → Nat → Int32) (p q : Int32) : Nat → Nat → Int32 := (aC_put i a p q)
set_option maxHeartbeats 4000000 in
set_option maxRecDepth 100000 in
theorem eX_poke (i : Nat → Int32) (a : Nat → Nat → Int32) (p q : Int32) (tl : List am_Cl) : am_Ev sX_poke [.ref 0, .int p, .int q] (wX i a tl) (some (.int (rX_poke i a p q))) (wX i (aX_poke i a p q) tl) := by
  refine am_Ev_of cwX_poke rfl rfl rfl (am_wp_T gdX_poke 400 ?_)
  refine am_call (eC_put i a p q tl) ?_
  exact am_ri (S := sX_poke) rfl rfl rfl (am_nz (zoC_put i a p q))
theorem zoX_poke (i : Nat → Int32) (a : Nat → Nat → Int32) (p q : Int32) : rX_poke i a p q = 0 ∨ rX_poke i a p q = 1 := by
  unfold rX_poke
  repeat' (first | with_reducible refine zo_ite ?_ ?_ | with_reducible exact zoC_put .. | with_reducible exact Or.inl rfl | with_reducible exact Or.inr rfl)
noncomputable def rX_peek (i : Nat → Int32) (a : Nat → Nat → Int32) (p : Int32) : Int32 := if p = (-1 : Int32) then (i 5) else (rC_byteAt i a p)
set_option maxHeartbeats 4000000 in
set_option maxRecDepth 100000 in
theorem eX_peek (i : Nat → Int32) (a : Nat → Nat → Int32) (p : Int32) (tl : List am_Cl) : am_Ev sX_peek [.ref 0, .int p] (wX i a tl) (some (.int (rX_peek i a p))) (wX i a tl) := by
  refine am_Ev_of cwX_peek rfl rfl rfl (am_wp_T gdX_peek 400 ?_)
  refine am_split (fun h1 => ?_) (fun h1 => ?_)
  · skip
    exact am_ri (S := sX_peek) (by unfold rX_peek; simp only [if_pos h1]; try rfl) rfl rfl rfl
  · skip
    refine am_call (eC_byteAt i a p tl) ?_
    exact am_ri (S := sX_peek) (by unfold rX_peek; simp only [if_neg h1]; try rfl) rfl rfl rfl
noncomputable def rX_input (i : Nat → Int32) (a : Nat → Nat → Int32) (p : Int32) : Int32 := if (rI_add i a p) = (0 : Int32) then (-2 : Int32) else ((iI_add i a p) 7)
noncomputable def iX_input (i : Nat → Int32) (a : Nat → Nat → Int32) (p : Int32) : Nat → Int32 := if (rI_add i a p) = (0 : Int32) then (iI_add i a p) else (iI_add i a p)
noncomputable def aX_input (i : Nat → Int32) (a : Nat → Nat → Int32) (p : Int32) : Nat → Nat → Int32 := if (rI_add i a p) = (0 : Int32) then (aI_add i a p) else (aI_add i a p)
set_option maxHeartbeats 4000000 in
set_option maxRecDepth 100000 in
theorem eX_input (i : Nat → Int32) (a : Nat → Nat → Int32) (p : Int32) (tl : List am_Cl) : am_Ev sX_input [.ref 0, .int p] (wX i a tl) (some (.int (rX_input i a p))) (wX (iX_input i a p) (aX_input i a p) tl) := by
  refine am_Ev_of cwX_input rfl rfl rfl (am_wp_T gdX_input 400 ?_)
  refine am_call (eI_add i a p tl) ?_
  refine am_split (fun h1 => ?_) (fun h1 => ?_)
  · skip
    exact am_ri (S := sX_input) (by unfold rX_input; simp only [if_pos h1]; try rfl) (by unfold iX_input aX_input; simp only [if_pos h1]; try rfl) rfl rfl
  · skip
    exact am_ri (S := sX_input) (by unfold rX_input; simp only [if_neg h1]; try rfl) (by unfold iX_input aX_input; simp only [if_neg h1]; try rfl) rfl rfl
end
section
/-! walks by program: the reference's methods with state, without loops -/
def inR (r : Int32) : Prop := 0 ≤ r.toInt ∧ r.toInt < 32
theorem in_rg0 {r : Int32} (h : inR r) : vp_in (((32 : Int32) * (0 : Int32)) + r) 64 := by
  rw [show ((32 : Int32) * (0 : Int32)) + r = r by rw [show (32 : Int32) * (0 : Int32) = 0 from rfl]; exact Int32.zero_add r, vp_in_iff]
  have := h.1
  have := h.2
  omega
theorem add_i {x y : Int32} (h1 : -2147483648 ≤ x.toInt + y.toInt) (h2 : x.toInt + y.toInt < 2147483648) : (x + y).toInt = x.toInt + y.toInt := by
  rw [Int32.toInt_add]
  exact Int.bmod_eq_of_le (by simpa using h1) (by simpa using h2)
theorem in_off {x y : Int32} {N : Nat} (hx : 0 ≤ x.toInt) (hy : 0 ≤ y.toInt) (h : x.toInt + y.toInt < N) (hN : N < 2147483648) : vp_in (x + y) N := by
  rw [vp_in_iff, add_i (by omega) (by omega)]
  omega
theorem in_rg1 {r : Int32} (h : inR r) : vp_in (((32 : Int32) * (1 : Int32)) + r) 64 := by
  have e : ((32 : Int32) * (1 : Int32)).toInt = 32 := rfl
  have := h.1
  have := h.2
  exact in_off (by omega) (by omega) (by omega) (by decide)
theorem inR_of {r : Int32} (h : rZ_notRegister r = 0) : inR r := by
  unfold rZ_notRegister at h
  split at h
  · cases h
  · split at h
    · rename_i h1 h2
      rw [lt_i] at h1
      rw [le_i] at h2
      have e0 : (0 : Int32).toInt = 0 := rfl
      have e1 : (31 : Int32).toInt = 31 := rfl
      constructor <;> omega
    · cases h
noncomputable def rZ_line (j : Nat → Int32) (c : Nat → Nat → Int32) (p q r s : Int32) : Int32 := if (rZ_isLine p q r s) = (0 : Int32) then (-1 : Int32) else if (j 0) = (20 : Int32) then (-2 : Int32) else ((j 0) + (1 : Int32))
noncomputable def iZ_line (j : Nat → Int32) (c : Nat → Nat → Int32) (p q r s : Int32) : Nat → Int32 := if (rZ_isLine p q r s) = (0 : Int32) then j else if (j 0) = (20 : Int32) then j else (sI j ((j 0) + (1 : Int32)) 0)
noncomputable def aZ_line (j : Nat → Int32) (c : Nat → Nat → Int32) (p q r s : Int32) : Nat → Nat → Int32 := if (rZ_isLine p q r s) = (0 : Int32) then c else if (j 0) = (20 : Int32) then c else (sA (sA (sA (sA c (upd (c 0) (Int32.toNatClampNeg (j 0)) p) 0) (upd (c 1) (Int32.toNatClampNeg (j 0)) q) 1) (upd (c 2) (Int32.toNatClampNeg (j 0)) r) 2) (upd (c 3) (Int32.toNatClampNeg (j 0)) s) 3)
set_option maxHeartbeats 4000000 in
set_option maxRecDepth 100000 in
theorem eZ_line (j : Nat → Int32) (c : Nat → Nat → Int32) (p q r s : Int32) (i : Nat → Int32) (a : Nat → Nat → Int32) (hl : ¬ j 0 = 20 → vp_in (j 0) 20) : am_Ev sZ_line [.ref 30, .int p, .int q, .int r, .int s] (wX i a (wZ j c)) (some (.int (rZ_line j c p q r s))) (wX i a (wZ (iZ_line j c p q r s) (aZ_line j c p q r s))) := by
  refine am_Ev_of cwZ_line rfl rfl rfl (am_wp_T gdZ_line 400 ?_)
  refine am_call (eZ_isLine p q r s _) ?_
  refine am_split (fun h1 => ?_) (fun h1 => ?_)
  · skip
    exact am_ri (S := sZ_line) (by unfold rZ_line; simp only [if_pos h1]; try rfl) (by unfold iZ_line aZ_line; simp only [if_pos h1]; try rfl) rfl rfl
  · skip
    refine am_split (fun h2 => ?_) (fun h2 => ?_)
    · skip
      exact am_ri (S := sZ_line) (by unfold rZ_line; simp only [if_neg h1, if_pos h2]; try rfl) (by unfold iZ_line aZ_line; simp only [if_neg h1, if_pos h2]; try rfl) rfl rfl
    · skip
      refine And.intro (by exact hl (by assumption)) ?_
      refine And.intro (by exact hl (by assumption)) ?_
      refine And.intro (by exact hl (by assumption)) ?_
      refine And.intro (by exact hl (by assumption)) ?_
      exact am_ri (S := sZ_line) (by unfold rZ_line; simp only [if_neg h1, if_neg h2]; try rfl) (by unfold iZ_line aZ_line; simp only [if_neg h1, if_neg h2]; try rfl) rfl rfl
noncomputable def rZ_clear (j : Nat → Int32) (c : Nat → Nat → Int32) : Int32 := (j 0)
noncomputable def iZ_clear (j : Nat → Int32) (c : Nat → Nat → Int32) : Nat → Int32 := (sI j (0 : Int32) 0)
set_option maxHeartbeats 4000000 in
set_option maxRecDepth 100000 in
theorem eZ_clear (j : Nat → Int32) (c : Nat → Nat → Int32) (i : Nat → Int32) (a : Nat → Nat → Int32) : am_Ev sZ_clear [.ref 30] (wX i a (wZ j c)) (some (.int (rZ_clear j c ))) (wX i a (wZ (iZ_clear j c ) c)) := by
  refine am_Ev_of cwZ_clear rfl rfl rfl (am_wp_T gdZ_clear 400 ?_)
  exact am_ri (S := sZ_clear) rfl rfl rfl rfl
noncomputable def rZ_targetOf (j : Nat → Int32) (c : Nat → Nat → Int32) (p : Int32) : Int32 := if ((c 0) (Int32.toNatClampNeg p)) = (11 : Int32) then ((c 2) (Int32.toNatClampNeg p)) else if ((c 0) (Int32.toNatClampNeg p)) = (16 : Int32) then ((c 2) (Int32.toNatClampNeg p)) else if ((c 0) (Int32.toNatClampNeg p)) < (8 : Int32) then (-1 : Int32) else if (10 : Int32) < ((c 0) (Int32.toNatClampNeg p)) then (-1 : Int32) else ((c 3) (Int32.toNatClampNeg p))
set_option maxHeartbeats 4000000 in
set_option maxRecDepth 100000 in
theorem eZ_targetOf (j : Nat → Int32) (c : Nat → Nat → Int32) (p : Int32) (i : Nat → Int32) (a : Nat → Nat → Int32) (hp : vp_in p 20) : am_Ev sZ_targetOf [.ref 30, .int p] (wX i a (wZ j c)) (some (.int (rZ_targetOf j c p))) (wX i a (wZ j c)) := by
  refine am_Ev_of cwZ_targetOf rfl rfl rfl (am_wp_T gdZ_targetOf 400 ?_)
  refine And.intro (by assumption) ?_
  refine am_split (fun h1 => ?_) (fun h1 => ?_)
  · skip
    refine And.intro (by assumption) ?_
    exact am_ri (S := sZ_targetOf) (by unfold rZ_targetOf; simp only [if_pos h1]; try rfl) rfl rfl rfl
  · skip
    refine am_split (fun h2 => ?_) (fun h2 => ?_)
    · skip
      refine And.intro (by assumption) ?_
      exact am_ri (S := sZ_targetOf) (by unfold rZ_targetOf; simp only [if_neg h1, if_pos h2]; try rfl) rfl rfl rfl
    · skip
      refine am_split (fun h3 => ?_) (fun h3 => ?_)
      · skip
        exact am_ri (S := sZ_targetOf) (by unfold rZ_targetOf; simp only [if_neg h1, if_neg h2, if_pos h3]; try rfl) rfl rfl rfl
      · skip
        refine am_split (fun h4 => ?_) (fun h4 => ?_)
        · skip
          exact am_ri (S := sZ_targetOf) (by unfold rZ_targetOf; simp only [if_neg h1, if_neg h2, if_neg h3, if_pos h4]; try rfl) rfl rfl rfl
        · skip
          refine And.intro (by assumption) ?_
          exact am_ri (S := sZ_targetOf) (by unfold rZ_targetOf; simp only [if_neg h1, if_neg h2, if_neg h3, if_neg h4]; try rfl) rfl rfl rfl
noncomputable def rZ_sizeOf (j : Nat → Int32) (c : Nat → Nat → Int32) (p : Int32) : Int32 := if ((c 0) (Int32.toNatClampNeg p)) = (6 : Int32) then (16 : Int32) else if ((c 0) (Int32.toNatClampNeg p)) = (7 : Int32) then (16 : Int32) else if ((c 0) (Int32.toNatClampNeg p)) = (12 : Int32) then (8 : Int32) else if ((c 0) (Int32.toNatClampNeg p)) = (13 : Int32) then (2 : Int32) else if ((c 0) (Int32.toNatClampNeg p)) = (14 : Int32) then (2 : Int32) else (4 : Int32)
set_option maxHeartbeats 4000000 in
set_option maxRecDepth 100000 in
theorem eZ_sizeOf (j : Nat → Int32) (c : Nat → Nat → Int32) (p : Int32) (i : Nat → Int32) (a : Nat → Nat → Int32) (hp : vp_in p 20) : am_Ev sZ_sizeOf [.ref 30, .int p] (wX i a (wZ j c)) (some (.int (rZ_sizeOf j c p))) (wX i a (wZ j c)) := by
  refine am_Ev_of cwZ_sizeOf rfl rfl rfl (am_wp_T gdZ_sizeOf 400 ?_)
  refine And.intro (by assumption) ?_
  refine am_split (fun h1 => ?_) (fun h1 => ?_)
  · skip
    exact am_ri (S := sZ_sizeOf) (by unfold rZ_sizeOf; simp only [if_pos h1]; try rfl) rfl rfl rfl
  · skip
    refine am_split (fun h2 => ?_) (fun h2 => ?_)
    · skip
      exact am_ri (S := sZ_sizeOf) (by unfold rZ_sizeOf; simp only [if_neg h1, if_pos h2]; try rfl) rfl rfl rfl
    · skip
      refine am_split (fun h3 => ?_) (fun h3 => ?_)
      · skip
        exact am_ri (S := sZ_sizeOf) (by unfold rZ_sizeOf; simp only [if_neg h1, if_neg h2, if_pos h3]; try rfl) rfl rfl rfl
      · skip
        refine am_split (fun h4 => ?_) (fun h4 => ?_)
        · skip
          exact am_ri (S := sZ_sizeOf) (by unfold rZ_sizeOf; simp only [if_neg h1, if_neg h2, if_neg h3, if_pos h4]; try rfl) rfl rfl rfl
        · skip
          refine am_split (fun h5 => ?_) (fun h5 => ?_)
          · skip
            exact am_ri (S := sZ_sizeOf) (by unfold rZ_sizeOf; simp only [if_neg h1, if_neg h2, if_neg h3, if_neg h4, if_pos h5]; try rfl) rfl rfl rfl
          · skip
            exact am_ri (S := sZ_sizeOf) (by unfold rZ_sizeOf; simp only [if_neg h1, if_neg h2, if_neg h3, if_neg h4, if_neg h5]; try rfl) rfl rfl rfl
noncomputable def rZ_ends (j : Nat → Int32) (c : Nat → Nat → Int32) (p : Int32) : Int32 := if ((c 0) (Int32.toNatClampNeg p)) = (15 : Int32) then (1 : Int32) else if ((c 0) (Int32.toNatClampNeg p)) = (11 : Int32) then if ((c 1) (Int32.toNatClampNeg p)) = (0 : Int32) then (0 : Int32) else (1 : Int32) else if ((c 0) (Int32.toNatClampNeg p)) = (12 : Int32) then if ((c 1) (Int32.toNatClampNeg p)) = (0 : Int32) then (0 : Int32) else (1 : Int32) else (0 : Int32)
set_option maxHeartbeats 4000000 in
set_option maxRecDepth 100000 in
theorem eZ_ends (j : Nat → Int32) (c : Nat → Nat → Int32) (p : Int32) (i : Nat → Int32) (a : Nat → Nat → Int32) (hp : vp_in p 20) : am_Ev sZ_ends [.ref 30, .int p] (wX i a (wZ j c)) (some (.int (rZ_ends j c p))) (wX i a (wZ j c)) := by
  refine am_Ev_of cwZ_ends rfl rfl rfl (am_wp_T gdZ_ends 400 ?_)
  refine And.intro (by assumption) ?_
  refine am_split (fun h1 => ?_) (fun h1 => ?_)
  · skip
    exact am_ri (S := sZ_ends) (by unfold rZ_ends; simp only [if_pos h1]; try rfl) rfl rfl rfl
  · skip
    refine And.intro (by assumption) ?_
    refine am_split (fun h2 => ?_) (fun h2 => ?_)
    · skip
      refine And.intro (by assumption) ?_
      refine am_split (fun h3 => ?_) (fun h3 => ?_)
      · skip
        exact am_ri (S := sZ_ends) (by unfold rZ_ends; simp only [if_neg h1, if_pos h2, if_pos h3]; try rfl) rfl rfl rfl
      · skip
        exact am_ri (S := sZ_ends) (by unfold rZ_ends; simp only [if_neg h1, if_pos h2, if_neg h3]; try rfl) rfl rfl rfl
    · skip
      refine And.intro (by assumption) ?_
      refine am_split (fun h4 => ?_) (fun h4 => ?_)
      · skip
        refine And.intro (by assumption) ?_
        refine am_split (fun h5 => ?_) (fun h5 => ?_)
        · skip
          exact am_ri (S := sZ_ends) (by unfold rZ_ends; simp only [if_neg h1, if_neg h2, if_pos h4, if_pos h5]; try rfl) rfl rfl rfl
        · skip
          exact am_ri (S := sZ_ends) (by unfold rZ_ends; simp only [if_neg h1, if_neg h2, if_pos h4, if_neg h5]; try rfl) rfl rfl rfl
      · skip
        exact am_ri (S := sZ_ends) (by unfold rZ_ends; simp only [if_neg h1, if_neg h2, if_neg h4]; try rfl) rfl rfl rfl
theorem zoZ_ends (j : Nat → Int32) (c : Nat → Nat → Int32) (p : Int32) : rZ_ends j c p = 0 ∨ rZ_ends j c p = 1 := by
  unfold rZ_ends
  repeat' (first | with_reducible refine zo_ite ?_ ?_ | with_reducible exact Or.inl rfl | with_reducible exact Or.inr rfl)
noncomputable def rZ_address (j : Nat → Int32) (c : Nat → Nat → Int32) (p : Int32) : Int32 := if (j 2) = (0 : Int32) then (-1 : Int32) else if p < (0 : Int32) then (-1 : Int32) else if p ≤ (j 1) then ((c 8) (Int32.toNatClampNeg p)) else (-1 : Int32)
set_option maxHeartbeats 4000000 in
set_option maxRecDepth 100000 in
theorem eZ_address (j : Nat → Int32) (c : Nat → Nat → Int32) (p : Int32) (i : Nat → Int32) (a : Nat → Nat → Int32) (hz : ¬ p < 0 → p ≤ j 1 → vp_in p 21) : am_Ev sZ_address [.ref 30, .int p] (wX i a (wZ j c)) (some (.int (rZ_address j c p))) (wX i a (wZ j c)) := by
  refine am_Ev_of cwZ_address rfl rfl rfl (am_wp_T gdZ_address 400 ?_)
  refine am_split (fun h1 => ?_) (fun h1 => ?_)
  · skip
    exact am_ri (S := sZ_address) (by unfold rZ_address; simp only [if_pos h1]; try rfl) rfl rfl rfl
  · skip
    refine am_split (fun h2 => ?_) (fun h2 => ?_)
    · skip
      exact am_ri (S := sZ_address) (by unfold rZ_address; simp only [if_neg h1, if_pos h2]; try rfl) rfl rfl rfl
    · skip
      refine am_split (fun h3 => ?_) (fun h3 => ?_)
      · skip
        refine And.intro (by exact hz (by assumption) (by assumption)) ?_
        exact am_ri (S := sZ_address) (by unfold rZ_address; simp only [if_neg h1, if_neg h2, if_pos h3]; try rfl) rfl rfl rfl
      · skip
        exact am_ri (S := sZ_address) (by unfold rZ_address; simp only [if_neg h1, if_neg h2, if_neg h3]; try rfl) rfl rfl rfl
noncomputable def rZ_poke (j : Nat → Int32) (c : Nat → Nat → Int32) (p q : Int32) : Int32 := if p < (0 : Int32) then (0 : Int32) else if (j 3) ≤ p then (0 : Int32) else if (rZ_outside q (0 : Int32) (255 : Int32)) = (0 : Int32) then (1 : Int32) else (0 : Int32)
noncomputable def aZ_poke (j : Nat → Int32) (c : Nat → Nat → Int32) (p q : Int32) : Nat → Nat → Int32 := if p < (0 : Int32) then c else if (j 3) ≤ p then c else if (rZ_outside q (0 : Int32) (255 : Int32)) = (0 : Int32) then (sA c (upd (c 11) (Int32.toNatClampNeg p) q) 11) else c
set_option maxHeartbeats 4000000 in
set_option maxRecDepth 100000 in
theorem eZ_poke (j : Nat → Int32) (c : Nat → Nat → Int32) (p q : Int32) (i : Nat → Int32) (a : Nat → Nat → Int32) (hz : ¬ p < 0 → ¬ j 3 ≤ p → vp_in p 256) : am_Ev sZ_poke [.ref 30, .int p, .int q] (wX i a (wZ j c)) (some (.int (rZ_poke j c p q))) (wX i a (wZ j (aZ_poke j c p q))) := by
  refine am_Ev_of cwZ_poke rfl rfl rfl (am_wp_T gdZ_poke 400 ?_)
  refine am_split (fun h1 => ?_) (fun h1 => ?_)
  · skip
    exact am_ri (S := sZ_poke) (by unfold rZ_poke; simp only [if_pos h1]; try rfl) (by unfold aZ_poke; simp only [if_pos h1]; try rfl) rfl rfl
  · skip
    refine am_split (fun h2 => ?_) (fun h2 => ?_)
    · skip
      exact am_ri (S := sZ_poke) (by unfold rZ_poke; simp only [if_neg h1, if_pos h2]; try rfl) (by unfold aZ_poke; simp only [if_neg h1, if_pos h2]; try rfl) rfl rfl
    · skip
      refine am_call (eZ_outside q (0 : Int32) (255 : Int32) _) ?_
      refine am_split (fun h3 => ?_) (fun h3 => ?_)
      · skip
        refine And.intro (by exact hz (by assumption) (by assumption)) ?_
        exact am_ri (S := sZ_poke) (by unfold rZ_poke; simp only [if_neg h1, if_neg h2, if_pos h3]; try rfl) (by unfold aZ_poke; simp only [if_neg h1, if_neg h2, if_pos h3]; try rfl) rfl rfl
      · skip
        exact am_ri (S := sZ_poke) (by unfold rZ_poke; simp only [if_neg h1, if_neg h2, if_neg h3]; try rfl) (by unfold aZ_poke; simp only [if_neg h1, if_neg h2, if_neg h3]; try rfl) rfl rfl
theorem zoZ_poke (j : Nat → Int32) (c : Nat → Nat → Int32) (p q : Int32) : rZ_poke j c p q = 0 ∨ rZ_poke j c p q = 1 := by
  unfold rZ_poke
  repeat' (first | with_reducible refine zo_ite ?_ ?_ | with_reducible exact Or.inl rfl | with_reducible exact Or.inr rfl)
noncomputable def rZ_peek (j : Nat → Int32) (c : Nat → Nat → Int32) (p : Int32) : Int32 := if p = (-1 : Int32) then (j 3) else if p < (0 : Int32) then (-1 : Int32) else if p < (j 3) then ((c 11) (Int32.toNatClampNeg p)) else (-1 : Int32)
set_option maxHeartbeats 4000000 in
set_option maxRecDepth 100000 in
theorem eZ_peek (j : Nat → Int32) (c : Nat → Nat → Int32) (p : Int32) (i : Nat → Int32) (a : Nat → Nat → Int32) (hz : ¬ p < 0 → ¬ j 3 ≤ p → vp_in p 256) : am_Ev sZ_peek [.ref 30, .int p] (wX i a (wZ j c)) (some (.int (rZ_peek j c p))) (wX i a (wZ j c)) := by
  refine am_Ev_of cwZ_peek rfl rfl rfl (am_wp_T gdZ_peek 400 ?_)
  refine am_split (fun h1 => ?_) (fun h1 => ?_)
  · skip
    exact am_ri (S := sZ_peek) (by unfold rZ_peek; simp only [if_pos h1]; try rfl) rfl rfl rfl
  · skip
    refine am_split (fun h2 => ?_) (fun h2 => ?_)
    · skip
      exact am_ri (S := sZ_peek) (by unfold rZ_peek; simp only [if_neg h1, if_pos h2]; try rfl) rfl rfl rfl
    · skip
      refine am_split (fun h3 => ?_) (fun h3 => ?_)
      · skip
        refine And.intro (by first | exact hz (by assumption) (by assumption) | exact hz (by assumption) (Int32.not_le.mpr (by assumption))) ?_
        exact am_ri (S := sZ_peek) (by unfold rZ_peek; simp only [if_neg h1, if_neg h2, if_pos h3]; try rfl) rfl rfl rfl
      · skip
        exact am_ri (S := sZ_peek) (by unfold rZ_peek; simp only [if_neg h1, if_neg h2, if_neg h3]; try rfl) rfl rfl rfl
noncomputable def rZ_byteAt (j : Nat → Int32) (c : Nat → Nat → Int32) (p : Int32) : Int32 := if (j 3) ≤ p then (0 : Int32) else ((c 11) (Int32.toNatClampNeg p))
set_option maxHeartbeats 4000000 in
set_option maxRecDepth 100000 in
theorem eZ_byteAt (j : Nat → Int32) (c : Nat → Nat → Int32) (p : Int32) (i : Nat → Int32) (a : Nat → Nat → Int32) (hz : ¬ j 3 ≤ p → vp_in p 256) : am_Ev sZ_byteAt [.ref 30, .int p] (wX i a (wZ j c)) (some (.int (rZ_byteAt j c p))) (wX i a (wZ j c)) := by
  refine am_Ev_of cwZ_byteAt rfl rfl rfl (am_wp_T gdZ_byteAt 400 ?_)
  refine am_split (fun h1 => ?_) (fun h1 => ?_)
  · skip
    exact am_ri (S := sZ_byteAt) (by unfold rZ_byteAt; simp only [if_pos h1]; try rfl) rfl rfl rfl
  · skip
    refine And.intro (by exact hz (by assumption)) ?_
    exact am_ri (S := sZ_byteAt) (by unfold rZ_byteAt; simp only [if_neg h1]; try rfl) rfl rfl rfl
noncomputable def rZ_spoils (j : Nat → Int32) (c : Nat → Nat → Int32) (p q : Int32) : Int32 := if p < (7 : Int32) then if (27 : Int32) ≤ ((q >>> ((7 : Int32) &&& 31)) &&& (31 : Int32)) then if p = (4 : Int32) then if ((q >>> ((7 : Int32) &&& 31)) &&& (31 : Int32)) = (31 : Int32) then if q = (rZ_made (2 : Int32) (31 : Int32) (31 : Int32) (29 : Int32)) then (0 : Int32) else if q = (rZ_made (3 : Int32) (31 : Int32) (31 : Int32) (28 : Int32)) then (0 : Int32) else if (q &&& (-1015809 : Int32)) = (rZ_made (2 : Int32) (31 : Int32) (0 : Int32) (27 : Int32)) then (0 : Int32) else (0 : Int32) else if q = (rZ_made (2 : Int32) (31 : Int32) (31 : Int32) (29 : Int32)) then (0 : Int32) else if q = (rZ_made (3 : Int32) (31 : Int32) (31 : Int32) (28 : Int32)) then (0 : Int32) else if (q &&& (-1015809 : Int32)) = (rZ_made (2 : Int32) (31 : Int32) (0 : Int32) (27 : Int32)) then (0 : Int32) else (1 : Int32) else if q = (rZ_made (2 : Int32) (31 : Int32) (31 : Int32) (29 : Int32)) then (0 : Int32) else if q = (rZ_made (3 : Int32) (31 : Int32) (31 : Int32) (28 : Int32)) then (0 : Int32) else if (q &&& (-1015809 : Int32)) = (rZ_made (2 : Int32) (31 : Int32) (0 : Int32) (27 : Int32)) then (0 : Int32) else (1 : Int32) else (0 : Int32) else if p ≤ (10 : Int32) then (0 : Int32) else if (27 : Int32) ≤ ((q >>> ((7 : Int32) &&& 31)) &&& (31 : Int32)) then if p = (4 : Int32) then if ((q >>> ((7 : Int32) &&& 31)) &&& (31 : Int32)) = (31 : Int32) then if q = (rZ_made (2 : Int32) (31 : Int32) (31 : Int32) (29 : Int32)) then (0 : Int32) else if q = (rZ_made (3 : Int32) (31 : Int32) (31 : Int32) (28 : Int32)) then (0 : Int32) else if (q &&& (-1015809 : Int32)) = (rZ_made (2 : Int32) (31 : Int32) (0 : Int32) (27 : Int32)) then (0 : Int32) else (0 : Int32) else if q = (rZ_made (2 : Int32) (31 : Int32) (31 : Int32) (29 : Int32)) then (0 : Int32) else if q = (rZ_made (3 : Int32) (31 : Int32) (31 : Int32) (28 : Int32)) then (0 : Int32) else if (q &&& (-1015809 : Int32)) = (rZ_made (2 : Int32) (31 : Int32) (0 : Int32) (27 : Int32)) then (0 : Int32) else (1 : Int32) else if q = (rZ_made (2 : Int32) (31 : Int32) (31 : Int32) (29 : Int32)) then (0 : Int32) else if q = (rZ_made (3 : Int32) (31 : Int32) (31 : Int32) (28 : Int32)) then (0 : Int32) else if (q &&& (-1015809 : Int32)) = (rZ_made (2 : Int32) (31 : Int32) (0 : Int32) (27 : Int32)) then (0 : Int32) else (1 : Int32) else (0 : Int32)
set_option maxHeartbeats 4000000 in
set_option maxRecDepth 100000 in
theorem eZ_spoils (j : Nat → Int32) (c : Nat → Nat → Int32) (p q : Int32) (i : Nat → Int32) (a : Nat → Nat → Int32) : am_Ev sZ_spoils [.ref 30, .int p, .int q] (wX i a (wZ j c)) (some (.int (rZ_spoils j c p q))) (wX i a (wZ j c)) := by
  refine am_Ev_of cwZ_spoils rfl rfl rfl (am_wp_T gdZ_spoils 400 ?_)
  refine am_split (fun h1 => ?_) (fun h1 => ?_)
  · skip
    refine am_split (fun hz => absurd hz (by decide)) (fun _ => ?_)
    refine am_split (fun h2 => ?_) (fun h2 => ?_)
    · skip
      refine am_call (eZ_made (2 : Int32) (31 : Int32) (0 : Int32) (27 : Int32) _) ?_
      refine am_split (fun h3 => ?_) (fun h3 => ?_)
      · skip
        refine am_split (fun h4 => ?_) (fun h4 => ?_)
        · skip
          refine am_call (eZ_made (2 : Int32) (31 : Int32) (31 : Int32) (29 : Int32) _) ?_
          refine am_split (fun h5 => ?_) (fun h5 => ?_)
          · skip
            refine am_split (fun hz => absurd hz (by decide)) (fun _ => ?_)
            exact am_ri (S := sZ_spoils) (by unfold rZ_spoils; simp only [if_pos h1, if_pos h2, if_pos h3, if_pos h4, if_pos h5]; try rfl) rfl rfl rfl
          · skip
            refine am_call (eZ_made (3 : Int32) (31 : Int32) (31 : Int32) (28 : Int32) _) ?_
            refine am_split (fun h6 => ?_) (fun h6 => ?_)
            · skip
              refine am_split (fun hz => absurd hz (by decide)) (fun _ => ?_)
              exact am_ri (S := sZ_spoils) (by unfold rZ_spoils; simp only [if_pos h1, if_pos h2, if_pos h3, if_pos h4, if_neg h5, if_pos h6]; try rfl) rfl rfl rfl
            · skip
              refine am_split (fun h7 => ?_) (fun h7 => ?_)
              · skip
                refine am_split (fun hz => absurd hz (by decide)) (fun _ => ?_)
                exact am_ri (S := sZ_spoils) (by unfold rZ_spoils; simp only [if_pos h1, if_pos h2, if_pos h3, if_pos h4, if_neg h5, if_neg h6, if_pos h7]; try rfl) rfl rfl rfl
              · skip
                refine am_split (fun hz => absurd hz (by decide)) (fun _ => ?_)
                exact am_ri (S := sZ_spoils) (by unfold rZ_spoils; simp only [if_pos h1, if_pos h2, if_pos h3, if_pos h4, if_neg h5, if_neg h6, if_neg h7]; try rfl) rfl rfl rfl
        · skip
          refine am_call (eZ_made (2 : Int32) (31 : Int32) (31 : Int32) (29 : Int32) _) ?_
          refine am_split (fun h8 => ?_) (fun h8 => ?_)
          · skip
            refine am_split (fun _ => ?_) (fun hz => absurd (by decide) hz)
            refine am_split (fun hz => absurd hz (by decide)) (fun _ => ?_)
            exact am_ri (S := sZ_spoils) (by unfold rZ_spoils; simp only [if_pos h1, if_pos h2, if_pos h3, if_neg h4, if_pos h8]; try rfl) rfl rfl rfl
          · skip
            refine am_call (eZ_made (3 : Int32) (31 : Int32) (31 : Int32) (28 : Int32) _) ?_
            refine am_split (fun h9 => ?_) (fun h9 => ?_)
            · skip
              refine am_split (fun _ => ?_) (fun hz => absurd (by decide) hz)
              refine am_split (fun hz => absurd hz (by decide)) (fun _ => ?_)
              exact am_ri (S := sZ_spoils) (by unfold rZ_spoils; simp only [if_pos h1, if_pos h2, if_pos h3, if_neg h4, if_neg h8, if_pos h9]; try rfl) rfl rfl rfl
            · skip
              refine am_split (fun h10 => ?_) (fun h10 => ?_)
              · skip
                refine am_split (fun _ => ?_) (fun hz => absurd (by decide) hz)
                refine am_split (fun hz => absurd hz (by decide)) (fun _ => ?_)
                exact am_ri (S := sZ_spoils) (by unfold rZ_spoils; simp only [if_pos h1, if_pos h2, if_pos h3, if_neg h4, if_neg h8, if_neg h9, if_pos h10]; try rfl) rfl rfl rfl
              · skip
                refine am_split (fun _ => ?_) (fun hz => absurd (by decide) hz)
                refine am_split (fun _ => ?_) (fun hz => absurd (by decide) hz)
                exact am_ri (S := sZ_spoils) (by unfold rZ_spoils; simp only [if_pos h1, if_pos h2, if_pos h3, if_neg h4, if_neg h8, if_neg h9, if_neg h10]; try rfl) rfl rfl rfl
      · skip
        refine am_call (eZ_made (2 : Int32) (31 : Int32) (31 : Int32) (29 : Int32) _) ?_
        refine am_split (fun h11 => ?_) (fun h11 => ?_)
        · skip
          refine am_split (fun _ => ?_) (fun hz => absurd (by decide) hz)
          refine am_split (fun hz => absurd hz (by decide)) (fun _ => ?_)
          exact am_ri (S := sZ_spoils) (by unfold rZ_spoils; simp only [if_pos h1, if_pos h2, if_neg h3, if_pos h11]; try rfl) rfl rfl rfl
        · skip
          refine am_call (eZ_made (3 : Int32) (31 : Int32) (31 : Int32) (28 : Int32) _) ?_
          refine am_split (fun h12 => ?_) (fun h12 => ?_)
          · skip
            refine am_split (fun _ => ?_) (fun hz => absurd (by decide) hz)
            refine am_split (fun hz => absurd hz (by decide)) (fun _ => ?_)
            exact am_ri (S := sZ_spoils) (by unfold rZ_spoils; simp only [if_pos h1, if_pos h2, if_neg h3, if_neg h11, if_pos h12]; try rfl) rfl rfl rfl
          · skip
            refine am_split (fun h13 => ?_) (fun h13 => ?_)
            · skip
              refine am_split (fun _ => ?_) (fun hz => absurd (by decide) hz)
              refine am_split (fun hz => absurd hz (by decide)) (fun _ => ?_)
              exact am_ri (S := sZ_spoils) (by unfold rZ_spoils; simp only [if_pos h1, if_pos h2, if_neg h3, if_neg h11, if_neg h12, if_pos h13]; try rfl) rfl rfl rfl
            · skip
              refine am_split (fun _ => ?_) (fun hz => absurd (by decide) hz)
              refine am_split (fun _ => ?_) (fun hz => absurd (by decide) hz)
              exact am_ri (S := sZ_spoils) (by unfold rZ_spoils; simp only [if_pos h1, if_pos h2, if_neg h3, if_neg h11, if_neg h12, if_neg h13]; try rfl) rfl rfl rfl
    · skip
      exact am_ri (S := sZ_spoils) (by unfold rZ_spoils; simp only [if_pos h1, if_neg h2]; try rfl) rfl rfl rfl
  · skip
    refine am_split (fun h14 => ?_) (fun h14 => ?_)
    · skip
      refine am_split (fun _ => ?_) (fun hz => absurd (by decide) hz)
      exact am_ri (S := sZ_spoils) (by unfold rZ_spoils; simp only [if_neg h1, if_pos h14]; try rfl) rfl rfl rfl
    · skip
      refine am_split (fun hz => absurd hz (by decide)) (fun _ => ?_)
      refine am_split (fun h15 => ?_) (fun h15 => ?_)
      · skip
        refine am_call (eZ_made (2 : Int32) (31 : Int32) (0 : Int32) (27 : Int32) _) ?_
        refine am_split (fun h16 => ?_) (fun h16 => ?_)
        · skip
          refine am_split (fun h17 => ?_) (fun h17 => ?_)
          · skip
            refine am_call (eZ_made (2 : Int32) (31 : Int32) (31 : Int32) (29 : Int32) _) ?_
            refine am_split (fun h18 => ?_) (fun h18 => ?_)
            · skip
              refine am_split (fun hz => absurd hz (by decide)) (fun _ => ?_)
              exact am_ri (S := sZ_spoils) (by unfold rZ_spoils; simp only [if_neg h1, if_neg h14, if_pos h15, if_pos h16, if_pos h17, if_pos h18]; try rfl) rfl rfl rfl
            · skip
              refine am_call (eZ_made (3 : Int32) (31 : Int32) (31 : Int32) (28 : Int32) _) ?_
              refine am_split (fun h19 => ?_) (fun h19 => ?_)
              · skip
                refine am_split (fun hz => absurd hz (by decide)) (fun _ => ?_)
                exact am_ri (S := sZ_spoils) (by unfold rZ_spoils; simp only [if_neg h1, if_neg h14, if_pos h15, if_pos h16, if_pos h17, if_neg h18, if_pos h19]; try rfl) rfl rfl rfl
              · skip
                refine am_split (fun h20 => ?_) (fun h20 => ?_)
                · skip
                  refine am_split (fun hz => absurd hz (by decide)) (fun _ => ?_)
                  exact am_ri (S := sZ_spoils) (by unfold rZ_spoils; simp only [if_neg h1, if_neg h14, if_pos h15, if_pos h16, if_pos h17, if_neg h18, if_neg h19, if_pos h20]; try rfl) rfl rfl rfl
                · skip
                  refine am_split (fun hz => absurd hz (by decide)) (fun _ => ?_)
                  exact am_ri (S := sZ_spoils) (by unfold rZ_spoils; simp only [if_neg h1, if_neg h14, if_pos h15, if_pos h16, if_pos h17, if_neg h18, if_neg h19, if_neg h20]; try rfl) rfl rfl rfl
          · skip
            refine am_call (eZ_made (2 : Int32) (31 : Int32) (31 : Int32) (29 : Int32) _) ?_
            refine am_split (fun h21 => ?_) (fun h21 => ?_)
            · skip
              refine am_split (fun _ => ?_) (fun hz => absurd (by decide) hz)
              refine am_split (fun hz => absurd hz (by decide)) (fun _ => ?_)
              exact am_ri (S := sZ_spoils) (by unfold rZ_spoils; simp only [if_neg h1, if_neg h14, if_pos h15, if_pos h16, if_neg h17, if_pos h21]; try rfl) rfl rfl rfl
            · skip
              refine am_call (eZ_made (3 : Int32) (31 : Int32) (31 : Int32) (28 : Int32) _) ?_
              refine am_split (fun h22 => ?_) (fun h22 => ?_)
              · skip
                refine am_split (fun _ => ?_) (fun hz => absurd (by decide) hz)
                refine am_split (fun hz => absurd hz (by decide)) (fun _ => ?_)
                exact am_ri (S := sZ_spoils) (by unfold rZ_spoils; simp only [if_neg h1, if_neg h14, if_pos h15, if_pos h16, if_neg h17, if_neg h21, if_pos h22]; try rfl) rfl rfl rfl
              · skip
                refine am_split (fun h23 => ?_) (fun h23 => ?_)
                · skip
                  refine am_split (fun _ => ?_) (fun hz => absurd (by decide) hz)
                  refine am_split (fun hz => absurd hz (by decide)) (fun _ => ?_)
                  exact am_ri (S := sZ_spoils) (by unfold rZ_spoils; simp only [if_neg h1, if_neg h14, if_pos h15, if_pos h16, if_neg h17, if_neg h21, if_neg h22, if_pos h23]; try rfl) rfl rfl rfl
                · skip
                  refine am_split (fun _ => ?_) (fun hz => absurd (by decide) hz)
                  refine am_split (fun _ => ?_) (fun hz => absurd (by decide) hz)
                  exact am_ri (S := sZ_spoils) (by unfold rZ_spoils; simp only [if_neg h1, if_neg h14, if_pos h15, if_pos h16, if_neg h17, if_neg h21, if_neg h22, if_neg h23]; try rfl) rfl rfl rfl
        · skip
          refine am_call (eZ_made (2 : Int32) (31 : Int32) (31 : Int32) (29 : Int32) _) ?_
          refine am_split (fun h24 => ?_) (fun h24 => ?_)
          · skip
            refine am_split (fun _ => ?_) (fun hz => absurd (by decide) hz)
            refine am_split (fun hz => absurd hz (by decide)) (fun _ => ?_)
            exact am_ri (S := sZ_spoils) (by unfold rZ_spoils; simp only [if_neg h1, if_neg h14, if_pos h15, if_neg h16, if_pos h24]; try rfl) rfl rfl rfl
          · skip
            refine am_call (eZ_made (3 : Int32) (31 : Int32) (31 : Int32) (28 : Int32) _) ?_
            refine am_split (fun h25 => ?_) (fun h25 => ?_)
            · skip
              refine am_split (fun _ => ?_) (fun hz => absurd (by decide) hz)
              refine am_split (fun hz => absurd hz (by decide)) (fun _ => ?_)
              exact am_ri (S := sZ_spoils) (by unfold rZ_spoils; simp only [if_neg h1, if_neg h14, if_pos h15, if_neg h16, if_neg h24, if_pos h25]; try rfl) rfl rfl rfl
            · skip
              refine am_split (fun h26 => ?_) (fun h26 => ?_)
              · skip
                refine am_split (fun _ => ?_) (fun hz => absurd (by decide) hz)
                refine am_split (fun hz => absurd hz (by decide)) (fun _ => ?_)
                exact am_ri (S := sZ_spoils) (by unfold rZ_spoils; simp only [if_neg h1, if_neg h14, if_pos h15, if_neg h16, if_neg h24, if_neg h25, if_pos h26]; try rfl) rfl rfl rfl
              · skip
                refine am_split (fun _ => ?_) (fun hz => absurd (by decide) hz)
                refine am_split (fun _ => ?_) (fun hz => absurd (by decide) hz)
                exact am_ri (S := sZ_spoils) (by unfold rZ_spoils; simp only [if_neg h1, if_neg h14, if_pos h15, if_neg h16, if_neg h24, if_neg h25, if_neg h26]; try rfl) rfl rfl rfl
      · skip
        exact am_ri (S := sZ_spoils) (by unfold rZ_spoils; simp only [if_neg h1, if_neg h14, if_neg h15]; try rfl) rfl rfl rfl
theorem zoZ_spoils (j : Nat → Int32) (c : Nat → Nat → Int32) (p q : Int32) : rZ_spoils j c p q = 0 ∨ rZ_spoils j c p q = 1 := by
  unfold rZ_spoils
  repeat' (first | with_reducible refine zo_ite ?_ ?_ | with_reducible exact Or.inl rfl | with_reducible exact Or.inr rfl)
noncomputable def rZ_input (j : Nat → Int32) (c : Nat → Nat → Int32) (p : Int32) : Int32 := if (j 5) = (20 : Int32) then (-2 : Int32) else ((j 5) + (1 : Int32))
noncomputable def iZ_input (j : Nat → Int32) (c : Nat → Nat → Int32) (p : Int32) : Nat → Int32 := if (j 5) = (20 : Int32) then j else (sI j ((j 5) + (1 : Int32)) 5)
noncomputable def aZ_input (j : Nat → Int32) (c : Nat → Nat → Int32) (p : Int32) : Nat → Nat → Int32 := if (j 5) = (20 : Int32) then c else (sA c (upd (c 13) (Int32.toNatClampNeg (j 5)) p) 13)
set_option maxHeartbeats 4000000 in
set_option maxRecDepth 100000 in
theorem eZ_input (j : Nat → Int32) (c : Nat → Nat → Int32) (p : Int32) (i : Nat → Int32) (a : Nat → Nat → Int32) (hl : ¬ j 5 = 20 → vp_in (j 5) 20) : am_Ev sZ_input [.ref 30, .int p] (wX i a (wZ j c)) (some (.int (rZ_input j c p))) (wX i a (wZ (iZ_input j c p) (aZ_input j c p))) := by
  refine am_Ev_of cwZ_input rfl rfl rfl (am_wp_T gdZ_input 400 ?_)
  refine am_split (fun h1 => ?_) (fun h1 => ?_)
  · skip
    exact am_ri (S := sZ_input) (by unfold rZ_input; simp only [if_pos h1]; try rfl) (by unfold iZ_input aZ_input; simp only [if_pos h1]; try rfl) rfl rfl
  · skip
    refine And.intro (by exact hl (by assumption)) ?_
    exact am_ri (S := sZ_input) (by unfold rZ_input; simp only [if_neg h1]; try rfl) (by unfold iZ_input aZ_input; simp only [if_neg h1]; try rfl) rfl rfl
noncomputable def aZ_set0 (j : Nat → Int32) (c : Nat → Nat → Int32) (q r : Int32) : Nat → Nat → Int32 := if q = (0 : Int32) then (sA c (upd (c 14) (Int32.toNatClampNeg (((32 : Int32) * (0 : Int32)) + q)) (0 : Int32)) 14) else (sA c (upd (c 14) (Int32.toNatClampNeg (((32 : Int32) * (0 : Int32)) + q)) r) 14)
set_option maxHeartbeats 4000000 in
set_option maxRecDepth 100000 in
theorem eZ_set0 (j : Nat → Int32) (c : Nat → Nat → Int32) (q r : Int32) (i : Nat → Int32) (a : Nat → Nat → Int32) (hr : inR q) : am_Ev sZ_set [.ref 30, .int (0 : Int32), .int q, .int r] (wX i a (wZ j c)) none (wX i a (wZ j (aZ_set0 j c q r))) := by
  refine am_Ev_of cwZ_set rfl rfl rfl (am_wp_T gdZ_set 400 ?_)
  refine am_split (fun h1 => ?_) (fun h1 => ?_)
  · skip
    refine And.intro (by exact in_rg0 hr) ?_
    exact am_rv (S := sZ_set) (by unfold aZ_set0; simp only [if_pos h1]; try rfl) rfl
  · skip
    refine And.intro (by exact in_rg0 hr) ?_
    exact am_rv (S := sZ_set) (by unfold aZ_set0; simp only [if_neg h1]; try rfl) rfl
noncomputable def rZ_get0 (j : Nat → Int32) (c : Nat → Nat → Int32) (q : Int32) : Int32 := ((c 14) (Int32.toNatClampNeg (((32 : Int32) * (0 : Int32)) + q)))
set_option maxHeartbeats 4000000 in
set_option maxRecDepth 100000 in
theorem eZ_get0 (j : Nat → Int32) (c : Nat → Nat → Int32) (q : Int32) (i : Nat → Int32) (a : Nat → Nat → Int32) (hr : inR q) : am_Ev sZ_get [.ref 30, .int (0 : Int32), .int q] (wX i a (wZ j c)) (some (.int (rZ_get0 j c q))) (wX i a (wZ j c)) := by
  refine am_Ev_of cwZ_get rfl rfl rfl (am_wp_T gdZ_get 400 ?_)
  refine And.intro (by exact in_rg0 hr) ?_
  exact am_ri (S := sZ_get) rfl rfl rfl rfl
noncomputable def iZ_serve0 (j : Nat → Int32) (c : Nat → Nat → Int32) (q : Int32) : Nat → Int32 := if q = (0 : Int32) then if (j 5) ≤ (j 6) then (sI j (j 6) 6) else (sI j ((j 6) + (1 : Int32)) 6) else if (40 : Int32) ≤ ((c 17) (Int32.toNatClampNeg (0 : Int32))) then j else j
noncomputable def aZ_serve0 (j : Nat → Int32) (c : Nat → Nat → Int32) (q : Int32) : Nat → Nat → Int32 := if q = (0 : Int32) then if (j 5) ≤ (j 6) then (aZ_set0 j c (10 : Int32) (-1 : Int32)) else (aZ_set0 j c (10 : Int32) ((c 13) (Int32.toNatClampNeg (j 6)))) else if (40 : Int32) ≤ ((c 17) (Int32.toNatClampNeg (0 : Int32))) then c else (sA (sA c (upd (c 16) (Int32.toNatClampNeg (((40 : Int32) * (0 : Int32)) + ((c 17) (Int32.toNatClampNeg (0 : Int32))))) (rZ_get0 j c (10 : Int32))) 16) (upd (c 17) (Int32.toNatClampNeg (0 : Int32)) (((c 17) (Int32.toNatClampNeg (0 : Int32))) + (1 : Int32))) 17)
set_option maxHeartbeats 4000000 in
set_option maxRecDepth 100000 in
theorem eZ_serve0 (j : Nat → Int32) (c : Nat → Nat → Int32) (q : Int32) (i : Nat → Int32) (a : Nat → Nat → Int32) (hi : ¬ j 5 ≤ j 6 → vp_in (j 6) 20) (ho : ¬ (40 : Int32) ≤ c 17 (Int32.toNatClampNeg (0 : Int32)) → vp_in (((40 : Int32) * (0 : Int32)) + c 17 (Int32.toNatClampNeg (0 : Int32))) 80) : am_Ev sZ_serve [.ref 30, .int (0 : Int32), .int q] (wX i a (wZ j c)) none (wX i a (wZ (iZ_serve0 j c q) (aZ_serve0 j c q))) := by
  refine am_Ev_of cwZ_serve rfl rfl rfl (am_wp_T gdZ_serve 400 ?_)
  refine am_split (fun h1 => ?_) (fun h1 => ?_)
  · skip
    refine am_split (fun h2 => ?_) (fun h2 => ?_)
    · skip
      refine am_call (eZ_set0 j c (10 : Int32) (-1 : Int32) i a  (by first | assumption | exact ⟨by decide, by decide⟩)) ?_
      refine am_split (fun _ => ?_) (fun hz => absurd h2 hz)
      exact am_rv (S := sZ_serve) (by unfold iZ_serve0 aZ_serve0; simp only [if_pos h1, if_pos h2]; try rfl) rfl
    · skip
      refine And.intro (by first | exact hi (by assumption) | exact ho (by assumption)) ?_
      refine am_call (eZ_set0 j c (10 : Int32) ((c 13) (Int32.toNatClampNeg (j 6))) i a  (by first | assumption | exact ⟨by decide, by decide⟩)) ?_
      refine am_split (fun hz => absurd hz h2) (fun _ => ?_)
      exact am_rv (S := sZ_serve) (by unfold iZ_serve0 aZ_serve0; simp only [if_pos h1, if_neg h2]; try rfl) rfl
  · skip
    refine And.intro (by exact vp_lit rfl) ?_
    refine am_split (fun h3 => ?_) (fun h3 => ?_)
    · skip
      exact am_rv (S := sZ_serve) (by unfold iZ_serve0 aZ_serve0; simp only [if_neg h1, if_pos h3]; try rfl) rfl
    · skip
      refine And.intro (by exact vp_lit rfl) ?_
      refine am_call (eZ_get0 j c (10 : Int32) i a  (by first | assumption | exact ⟨by decide, by decide⟩)) ?_
      refine And.intro (by first | exact hi (by assumption) | exact ho (by assumption)) ?_
      refine And.intro (by exact vp_lit rfl) ?_
      refine And.intro (by exact vp_lit rfl) ?_
      exact am_rv (S := sZ_serve) (by unfold iZ_serve0 aZ_serve0; simp only [if_neg h1, if_neg h3]; try rfl) rfl
noncomputable def rZ_holds0 (j : Nat → Int32) (c : Nat → Nat → Int32) (q r s : Int32) : Int32 := if q = (8 : Int32) then if (rZ_get0 j c r) = (rZ_get0 j c s) then (1 : Int32) else (0 : Int32) else if q = (9 : Int32) then if (rZ_get0 j c r) = (rZ_get0 j c s) then (0 : Int32) else (1 : Int32) else if (rZ_get0 j c s) ≤ (rZ_get0 j c r) then (0 : Int32) else (1 : Int32)
set_option maxHeartbeats 4000000 in
set_option maxRecDepth 100000 in
theorem eZ_holds0 (j : Nat → Int32) (c : Nat → Nat → Int32) (q r s : Int32) (i : Nat → Int32) (a : Nat → Nat → Int32) (ha : inR r) (hb : inR s) : am_Ev sZ_holds [.ref 30, .int (0 : Int32), .int q, .int r, .int s] (wX i a (wZ j c)) (some (.int (rZ_holds0 j c q r s))) (wX i a (wZ j c)) := by
  refine am_Ev_of cwZ_holds rfl rfl rfl (am_wp_T gdZ_holds 400 ?_)
  refine am_call (eZ_get0 j c r i a  (by assumption)) ?_
  refine am_call (eZ_get0 j c s i a  (by assumption)) ?_
  refine am_split (fun h1 => ?_) (fun h1 => ?_)
  · skip
    refine am_split (fun h2 => ?_) (fun h2 => ?_)
    · skip
      exact am_ri (S := sZ_holds) (by unfold rZ_holds0; simp only [if_pos h1, if_pos h2]; try rfl) rfl rfl rfl
    · skip
      exact am_ri (S := sZ_holds) (by unfold rZ_holds0; simp only [if_pos h1, if_neg h2]; try rfl) rfl rfl rfl
  · skip
    refine am_split (fun h3 => ?_) (fun h3 => ?_)
    · skip
      refine am_split (fun h4 => ?_) (fun h4 => ?_)
      · skip
        exact am_ri (S := sZ_holds) (by unfold rZ_holds0; simp only [if_neg h1, if_pos h3, if_pos h4]; try rfl) rfl rfl rfl
      · skip
        exact am_ri (S := sZ_holds) (by unfold rZ_holds0; simp only [if_neg h1, if_pos h3, if_neg h4]; try rfl) rfl rfl rfl
    · skip
      refine am_split (fun h5 => ?_) (fun h5 => ?_)
      · skip
        exact am_ri (S := sZ_holds) (by unfold rZ_holds0; simp only [if_neg h1, if_neg h3, if_pos h5]; try rfl) rfl rfl rfl
      · skip
        exact am_ri (S := sZ_holds) (by unfold rZ_holds0; simp only [if_neg h1, if_neg h3, if_neg h5]; try rfl) rfl rfl rfl
theorem zoZ_holds0 (j : Nat → Int32) (c : Nat → Nat → Int32) (q r s : Int32) : rZ_holds0 j c q r s = 0 ∨ rZ_holds0 j c q r s = 1 := by
  unfold rZ_holds0
  repeat' (first | with_reducible refine zo_ite ?_ ?_ | with_reducible exact Or.inl rfl | with_reducible exact Or.inr rfl)
noncomputable def aZ_reckon0 (j : Nat → Int32) (c : Nat → Nat → Int32) (q r s t : Int32) : Nat → Nat → Int32 := if q = (5 : Int32) then (aZ_set0 j c r (s <<< ((12 : Int32) &&& 31))) else if q = (13 : Int32) then (aZ_set0 j c r ((rZ_get0 j c r) + s)) else if q = (14 : Int32) then (aZ_set0 j c r (rZ_get0 j c s)) else if q = (4 : Int32) then if q = (0 : Int32) then (aZ_set0 j c r ((rZ_get0 j c s) + t)) else (aZ_set0 j c r ((rZ_get0 j c s) + t)) else if q = (0 : Int32) then (aZ_set0 j c r ((rZ_get0 j c s) + (rZ_get0 j c t))) else if q = (1 : Int32) then (aZ_set0 j c r ((rZ_get0 j c s) - (rZ_get0 j c t))) else if q = (2 : Int32) then (aZ_set0 j c r ((rZ_get0 j c s) &&& (rZ_get0 j c t))) else (aZ_set0 j c r ((rZ_get0 j c s) ||| (rZ_get0 j c t)))
set_option maxHeartbeats 4000000 in
set_option maxRecDepth 100000 in
theorem eZ_reckon0 (j : Nat → Int32) (c : Nat → Nat → Int32) (q r s t : Int32) (i : Nat → Int32) (a : Nat → Nat → Int32) (ha : inR r) (hb : ¬ q = 5 → ¬ q = 13 → inR s) (hc : ¬ q = 5 → ¬ q = 13 → ¬ q = 14 → ¬ q = 4 → inR t) : am_Ev sZ_reckon [.ref 30, .int (0 : Int32), .int q, .int r, .int s, .int t] (wX i a (wZ j c)) none (wX i a (wZ j (aZ_reckon0 j c q r s t))) := by
  refine am_Ev_of cwZ_reckon rfl rfl rfl (am_wp_T gdZ_reckon 400 ?_)
  refine am_split (fun h1 => ?_) (fun h1 => ?_)
  · skip
    refine am_call (eZ_set0 j c r (s <<< ((12 : Int32) &&& 31)) i a  (by first | assumption | exact hb (by assumption) (by assumption) | exact hc (by assumption) (by assumption) (by assumption) (by assumption))) ?_
    exact am_rv (S := sZ_reckon) (by unfold aZ_reckon0; simp only [if_pos h1]; try rfl) rfl
  · skip
    refine am_split (fun h2 => ?_) (fun h2 => ?_)
    · skip
      refine am_call (eZ_get0 j c r i a  (by first | assumption | exact hb (by assumption) (by assumption) | exact hc (by assumption) (by assumption) (by assumption) (by assumption))) ?_
      refine am_call (eZ_set0 j c r ((rZ_get0 j c r) + s) i a  (by first | assumption | exact hb (by assumption) (by assumption) | exact hc (by assumption) (by assumption) (by assumption) (by assumption))) ?_
      exact am_rv (S := sZ_reckon) (by unfold aZ_reckon0; simp only [if_neg h1, if_pos h2]; try rfl) rfl
    · skip
      refine am_split (fun h3 => ?_) (fun h3 => ?_)
      · skip
        refine am_call (eZ_get0 j c s i a  (by first | assumption | exact hb (by assumption) (by assumption) | exact hc (by assumption) (by assumption) (by assumption) (by assumption))) ?_
        refine am_call (eZ_set0 j c r (rZ_get0 j c s) i a  (by first | assumption | exact hb (by assumption) (by assumption) | exact hc (by assumption) (by assumption) (by assumption) (by assumption))) ?_
        exact am_rv (S := sZ_reckon) (by unfold aZ_reckon0; simp only [if_neg h1, if_neg h2, if_pos h3]; try rfl) rfl
      · skip
        refine am_call (eZ_get0 j c s i a  (by first | assumption | exact hb (by assumption) (by assumption) | exact hc (by assumption) (by assumption) (by assumption) (by assumption))) ?_
        refine am_split (fun h4 => ?_) (fun h4 => ?_)
        · skip
          refine am_split (fun h5 => ?_) (fun h5 => ?_)
          · skip
            refine am_call (eZ_set0 j c r ((rZ_get0 j c s) + t) i a  (by first | assumption | exact hb (by assumption) (by assumption) | exact hc (by assumption) (by assumption) (by assumption) (by assumption))) ?_
            exact am_rv (S := sZ_reckon) (by unfold aZ_reckon0; simp only [if_neg h1, if_neg h2, if_neg h3, if_pos h4, if_pos h5]; try rfl) rfl
          · skip
            refine am_split (fun _ => ?_) (fun hz => absurd h4 hz)
            refine am_call (eZ_set0 j c r ((rZ_get0 j c s) + t) i a  (by first | assumption | exact hb (by assumption) (by assumption) | exact hc (by assumption) (by assumption) (by assumption) (by assumption))) ?_
            exact am_rv (S := sZ_reckon) (by unfold aZ_reckon0; simp only [if_neg h1, if_neg h2, if_neg h3, if_pos h4, if_neg h5]; try rfl) rfl
        · skip
          refine am_call (eZ_get0 j c t i a  (by first | assumption | exact hb (by assumption) (by assumption) | exact hc (by assumption) (by assumption) (by assumption) (by assumption))) ?_
          refine am_split (fun h6 => ?_) (fun h6 => ?_)
          · skip
            refine am_call (eZ_set0 j c r ((rZ_get0 j c s) + (rZ_get0 j c t)) i a  (by first | assumption | exact hb (by assumption) (by assumption) | exact hc (by assumption) (by assumption) (by assumption) (by assumption))) ?_
            exact am_rv (S := sZ_reckon) (by unfold aZ_reckon0; simp only [if_neg h1, if_neg h2, if_neg h3, if_neg h4, if_pos h6]; try rfl) rfl
          · skip
            refine am_split (fun hz => absurd hz h4) (fun _ => ?_)
            refine am_split (fun h7 => ?_) (fun h7 => ?_)
            · skip
              refine am_call (eZ_set0 j c r ((rZ_get0 j c s) - (rZ_get0 j c t)) i a  (by first | assumption | exact hb (by assumption) (by assumption) | exact hc (by assumption) (by assumption) (by assumption) (by assumption))) ?_
              exact am_rv (S := sZ_reckon) (by unfold aZ_reckon0; simp only [if_neg h1, if_neg h2, if_neg h3, if_neg h4, if_neg h6, if_pos h7]; try rfl) rfl
            · skip
              refine am_split (fun h8 => ?_) (fun h8 => ?_)
              · skip
                refine am_call (eZ_set0 j c r ((rZ_get0 j c s) &&& (rZ_get0 j c t)) i a  (by first | assumption | exact hb (by assumption) (by assumption) | exact hc (by assumption) (by assumption) (by assumption) (by assumption))) ?_
                exact am_rv (S := sZ_reckon) (by unfold aZ_reckon0; simp only [if_neg h1, if_neg h2, if_neg h3, if_neg h4, if_neg h6, if_neg h7, if_pos h8]; try rfl) rfl
              · skip
                refine am_call (eZ_set0 j c r ((rZ_get0 j c s) ||| (rZ_get0 j c t)) i a  (by first | assumption | exact hb (by assumption) (by assumption) | exact hc (by assumption) (by assumption) (by assumption) (by assumption))) ?_
                exact am_rv (S := sZ_reckon) (by unfold aZ_reckon0; simp only [if_neg h1, if_neg h2, if_neg h3, if_neg h4, if_neg h6, if_neg h7, if_neg h8]; try rfl) rfl
noncomputable def aZ_set1 (j : Nat → Int32) (c : Nat → Nat → Int32) (q r : Int32) : Nat → Nat → Int32 := if q = (0 : Int32) then (sA c (upd (c 14) (Int32.toNatClampNeg (((32 : Int32) * (1 : Int32)) + q)) (0 : Int32)) 14) else (sA c (upd (c 14) (Int32.toNatClampNeg (((32 : Int32) * (1 : Int32)) + q)) r) 14)
set_option maxHeartbeats 4000000 in
set_option maxRecDepth 100000 in
theorem eZ_set1 (j : Nat → Int32) (c : Nat → Nat → Int32) (q r : Int32) (i : Nat → Int32) (a : Nat → Nat → Int32) (hr : inR q) : am_Ev sZ_set [.ref 30, .int (1 : Int32), .int q, .int r] (wX i a (wZ j c)) none (wX i a (wZ j (aZ_set1 j c q r))) := by
  refine am_Ev_of cwZ_set rfl rfl rfl (am_wp_T gdZ_set 400 ?_)
  refine am_split (fun h1 => ?_) (fun h1 => ?_)
  · skip
    refine And.intro (by exact in_rg1 hr) ?_
    exact am_rv (S := sZ_set) (by unfold aZ_set1; simp only [if_pos h1]; try rfl) rfl
  · skip
    refine And.intro (by exact in_rg1 hr) ?_
    exact am_rv (S := sZ_set) (by unfold aZ_set1; simp only [if_neg h1]; try rfl) rfl
noncomputable def rZ_get1 (j : Nat → Int32) (c : Nat → Nat → Int32) (q : Int32) : Int32 := ((c 14) (Int32.toNatClampNeg (((32 : Int32) * (1 : Int32)) + q)))
set_option maxHeartbeats 4000000 in
set_option maxRecDepth 100000 in
theorem eZ_get1 (j : Nat → Int32) (c : Nat → Nat → Int32) (q : Int32) (i : Nat → Int32) (a : Nat → Nat → Int32) (hr : inR q) : am_Ev sZ_get [.ref 30, .int (1 : Int32), .int q] (wX i a (wZ j c)) (some (.int (rZ_get1 j c q))) (wX i a (wZ j c)) := by
  refine am_Ev_of cwZ_get rfl rfl rfl (am_wp_T gdZ_get 400 ?_)
  refine And.intro (by exact in_rg1 hr) ?_
  exact am_ri (S := sZ_get) rfl rfl rfl rfl
noncomputable def iZ_serve1 (j : Nat → Int32) (c : Nat → Nat → Int32) (q : Int32) : Nat → Int32 := if q = (0 : Int32) then if (j 5) ≤ (j 6) then (sI j (j 6) 6) else (sI j ((j 6) + (1 : Int32)) 6) else if (40 : Int32) ≤ ((c 17) (Int32.toNatClampNeg (1 : Int32))) then j else j
noncomputable def aZ_serve1 (j : Nat → Int32) (c : Nat → Nat → Int32) (q : Int32) : Nat → Nat → Int32 := if q = (0 : Int32) then if (j 5) ≤ (j 6) then (aZ_set1 j c (10 : Int32) (-1 : Int32)) else (aZ_set1 j c (10 : Int32) ((c 13) (Int32.toNatClampNeg (j 6)))) else if (40 : Int32) ≤ ((c 17) (Int32.toNatClampNeg (1 : Int32))) then c else (sA (sA c (upd (c 16) (Int32.toNatClampNeg (((40 : Int32) * (1 : Int32)) + ((c 17) (Int32.toNatClampNeg (1 : Int32))))) (rZ_get1 j c (10 : Int32))) 16) (upd (c 17) (Int32.toNatClampNeg (1 : Int32)) (((c 17) (Int32.toNatClampNeg (1 : Int32))) + (1 : Int32))) 17)
set_option maxHeartbeats 4000000 in
set_option maxRecDepth 100000 in
theorem eZ_serve1 (j : Nat → Int32) (c : Nat → Nat → Int32) (q : Int32) (i : Nat → Int32) (a : Nat → Nat → Int32) (hi : ¬ j 5 ≤ j 6 → vp_in (j 6) 20) (ho : ¬ (40 : Int32) ≤ c 17 (Int32.toNatClampNeg (1 : Int32)) → vp_in (((40 : Int32) * (1 : Int32)) + c 17 (Int32.toNatClampNeg (1 : Int32))) 80) : am_Ev sZ_serve [.ref 30, .int (1 : Int32), .int q] (wX i a (wZ j c)) none (wX i a (wZ (iZ_serve1 j c q) (aZ_serve1 j c q))) := by
  refine am_Ev_of cwZ_serve rfl rfl rfl (am_wp_T gdZ_serve 400 ?_)
  refine am_split (fun h1 => ?_) (fun h1 => ?_)
  · skip
    refine am_split (fun h2 => ?_) (fun h2 => ?_)
    · skip
      refine am_call (eZ_set1 j c (10 : Int32) (-1 : Int32) i a  (by first | assumption | exact ⟨by decide, by decide⟩)) ?_
      refine am_split (fun _ => ?_) (fun hz => absurd h2 hz)
      exact am_rv (S := sZ_serve) (by unfold iZ_serve1 aZ_serve1; simp only [if_pos h1, if_pos h2]; try rfl) rfl
    · skip
      refine And.intro (by first | exact hi (by assumption) | exact ho (by assumption)) ?_
      refine am_call (eZ_set1 j c (10 : Int32) ((c 13) (Int32.toNatClampNeg (j 6))) i a  (by first | assumption | exact ⟨by decide, by decide⟩)) ?_
      refine am_split (fun hz => absurd hz h2) (fun _ => ?_)
      exact am_rv (S := sZ_serve) (by unfold iZ_serve1 aZ_serve1; simp only [if_pos h1, if_neg h2]; try rfl) rfl
  · skip
    refine And.intro (by exact vp_lit rfl) ?_
    refine am_split (fun h3 => ?_) (fun h3 => ?_)
    · skip
      exact am_rv (S := sZ_serve) (by unfold iZ_serve1 aZ_serve1; simp only [if_neg h1, if_pos h3]; try rfl) rfl
    · skip
      refine And.intro (by exact vp_lit rfl) ?_
      refine am_call (eZ_get1 j c (10 : Int32) i a  (by first | assumption | exact ⟨by decide, by decide⟩)) ?_
      refine And.intro (by first | exact hi (by assumption) | exact ho (by assumption)) ?_
      refine And.intro (by exact vp_lit rfl) ?_
      refine And.intro (by exact vp_lit rfl) ?_
      exact am_rv (S := sZ_serve) (by unfold iZ_serve1 aZ_serve1; simp only [if_neg h1, if_neg h3]; try rfl) rfl
noncomputable def rZ_holds1 (j : Nat → Int32) (c : Nat → Nat → Int32) (q r s : Int32) : Int32 := if q = (8 : Int32) then if (rZ_get1 j c r) = (rZ_get1 j c s) then (1 : Int32) else (0 : Int32) else if q = (9 : Int32) then if (rZ_get1 j c r) = (rZ_get1 j c s) then (0 : Int32) else (1 : Int32) else if (rZ_get1 j c s) ≤ (rZ_get1 j c r) then (0 : Int32) else (1 : Int32)
set_option maxHeartbeats 4000000 in
set_option maxRecDepth 100000 in
theorem eZ_holds1 (j : Nat → Int32) (c : Nat → Nat → Int32) (q r s : Int32) (i : Nat → Int32) (a : Nat → Nat → Int32) (ha : inR r) (hb : inR s) : am_Ev sZ_holds [.ref 30, .int (1 : Int32), .int q, .int r, .int s] (wX i a (wZ j c)) (some (.int (rZ_holds1 j c q r s))) (wX i a (wZ j c)) := by
  refine am_Ev_of cwZ_holds rfl rfl rfl (am_wp_T gdZ_holds 400 ?_)
  refine am_call (eZ_get1 j c r i a  (by assumption)) ?_
  refine am_call (eZ_get1 j c s i a  (by assumption)) ?_
  refine am_split (fun h1 => ?_) (fun h1 => ?_)
  · skip
    refine am_split (fun h2 => ?_) (fun h2 => ?_)
    · skip
      exact am_ri (S := sZ_holds) (by unfold rZ_holds1; simp only [if_pos h1, if_pos h2]; try rfl) rfl rfl rfl
    · skip
      exact am_ri (S := sZ_holds) (by unfold rZ_holds1; simp only [if_pos h1, if_neg h2]; try rfl) rfl rfl rfl
  · skip
    refine am_split (fun h3 => ?_) (fun h3 => ?_)
    · skip
      refine am_split (fun h4 => ?_) (fun h4 => ?_)
      · skip
        exact am_ri (S := sZ_holds) (by unfold rZ_holds1; simp only [if_neg h1, if_pos h3, if_pos h4]; try rfl) rfl rfl rfl
      · skip
        exact am_ri (S := sZ_holds) (by unfold rZ_holds1; simp only [if_neg h1, if_pos h3, if_neg h4]; try rfl) rfl rfl rfl
    · skip
      refine am_split (fun h5 => ?_) (fun h5 => ?_)
      · skip
        exact am_ri (S := sZ_holds) (by unfold rZ_holds1; simp only [if_neg h1, if_neg h3, if_pos h5]; try rfl) rfl rfl rfl
      · skip
        exact am_ri (S := sZ_holds) (by unfold rZ_holds1; simp only [if_neg h1, if_neg h3, if_neg h5]; try rfl) rfl rfl rfl
theorem zoZ_holds1 (j : Nat → Int32) (c : Nat → Nat → Int32) (q r s : Int32) : rZ_holds1 j c q r s = 0 ∨ rZ_holds1 j c q r s = 1 := by
  unfold rZ_holds1
  repeat' (first | with_reducible refine zo_ite ?_ ?_ | with_reducible exact Or.inl rfl | with_reducible exact Or.inr rfl)
noncomputable def aZ_reckon1 (j : Nat → Int32) (c : Nat → Nat → Int32) (q r s t : Int32) : Nat → Nat → Int32 := if q = (5 : Int32) then (aZ_set1 j c r (s <<< ((12 : Int32) &&& 31))) else if q = (13 : Int32) then (aZ_set1 j c r ((rZ_get1 j c r) + s)) else if q = (14 : Int32) then (aZ_set1 j c r (rZ_get1 j c s)) else if q = (4 : Int32) then if q = (0 : Int32) then (aZ_set1 j c r ((rZ_get1 j c s) + t)) else (aZ_set1 j c r ((rZ_get1 j c s) + t)) else if q = (0 : Int32) then (aZ_set1 j c r ((rZ_get1 j c s) + (rZ_get1 j c t))) else if q = (1 : Int32) then (aZ_set1 j c r ((rZ_get1 j c s) - (rZ_get1 j c t))) else if q = (2 : Int32) then (aZ_set1 j c r ((rZ_get1 j c s) &&& (rZ_get1 j c t))) else (aZ_set1 j c r ((rZ_get1 j c s) ||| (rZ_get1 j c t)))
set_option maxHeartbeats 4000000 in
set_option maxRecDepth 100000 in
theorem eZ_reckon1 (j : Nat → Int32) (c : Nat → Nat → Int32) (q r s t : Int32) (i : Nat → Int32) (a : Nat → Nat → Int32) (ha : inR r) (hb : ¬ q = 5 → ¬ q = 13 → inR s) (hc : ¬ q = 5 → ¬ q = 13 → ¬ q = 14 → ¬ q = 4 → inR t) : am_Ev sZ_reckon [.ref 30, .int (1 : Int32), .int q, .int r, .int s, .int t] (wX i a (wZ j c)) none (wX i a (wZ j (aZ_reckon1 j c q r s t))) := by
  refine am_Ev_of cwZ_reckon rfl rfl rfl (am_wp_T gdZ_reckon 400 ?_)
  refine am_split (fun h1 => ?_) (fun h1 => ?_)
  · skip
    refine am_call (eZ_set1 j c r (s <<< ((12 : Int32) &&& 31)) i a  (by first | assumption | exact hb (by assumption) (by assumption) | exact hc (by assumption) (by assumption) (by assumption) (by assumption))) ?_
    exact am_rv (S := sZ_reckon) (by unfold aZ_reckon1; simp only [if_pos h1]; try rfl) rfl
  · skip
    refine am_split (fun h2 => ?_) (fun h2 => ?_)
    · skip
      refine am_call (eZ_get1 j c r i a  (by first | assumption | exact hb (by assumption) (by assumption) | exact hc (by assumption) (by assumption) (by assumption) (by assumption))) ?_
      refine am_call (eZ_set1 j c r ((rZ_get1 j c r) + s) i a  (by first | assumption | exact hb (by assumption) (by assumption) | exact hc (by assumption) (by assumption) (by assumption) (by assumption))) ?_
      exact am_rv (S := sZ_reckon) (by unfold aZ_reckon1; simp only [if_neg h1, if_pos h2]; try rfl) rfl
    · skip
      refine am_split (fun h3 => ?_) (fun h3 => ?_)
      · skip
        refine am_call (eZ_get1 j c s i a  (by first | assumption | exact hb (by assumption) (by assumption) | exact hc (by assumption) (by assumption) (by assumption) (by assumption))) ?_
        refine am_call (eZ_set1 j c r (rZ_get1 j c s) i a  (by first | assumption | exact hb (by assumption) (by assumption) | exact hc (by assumption) (by assumption) (by assumption) (by assumption))) ?_
        exact am_rv (S := sZ_reckon) (by unfold aZ_reckon1; simp only [if_neg h1, if_neg h2, if_pos h3]; try rfl) rfl
      · skip
        refine am_call (eZ_get1 j c s i a  (by first | assumption | exact hb (by assumption) (by assumption) | exact hc (by assumption) (by assumption) (by assumption) (by assumption))) ?_
        refine am_split (fun h4 => ?_) (fun h4 => ?_)
        · skip
          refine am_split (fun h5 => ?_) (fun h5 => ?_)
          · skip
            refine am_call (eZ_set1 j c r ((rZ_get1 j c s) + t) i a  (by first | assumption | exact hb (by assumption) (by assumption) | exact hc (by assumption) (by assumption) (by assumption) (by assumption))) ?_
            exact am_rv (S := sZ_reckon) (by unfold aZ_reckon1; simp only [if_neg h1, if_neg h2, if_neg h3, if_pos h4, if_pos h5]; try rfl) rfl
          · skip
            refine am_split (fun _ => ?_) (fun hz => absurd h4 hz)
            refine am_call (eZ_set1 j c r ((rZ_get1 j c s) + t) i a  (by first | assumption | exact hb (by assumption) (by assumption) | exact hc (by assumption) (by assumption) (by assumption) (by assumption))) ?_
            exact am_rv (S := sZ_reckon) (by unfold aZ_reckon1; simp only [if_neg h1, if_neg h2, if_neg h3, if_pos h4, if_neg h5]; try rfl) rfl
        · skip
          refine am_call (eZ_get1 j c t i a  (by first | assumption | exact hb (by assumption) (by assumption) | exact hc (by assumption) (by assumption) (by assumption) (by assumption))) ?_
          refine am_split (fun h6 => ?_) (fun h6 => ?_)
          · skip
            refine am_call (eZ_set1 j c r ((rZ_get1 j c s) + (rZ_get1 j c t)) i a  (by first | assumption | exact hb (by assumption) (by assumption) | exact hc (by assumption) (by assumption) (by assumption) (by assumption))) ?_
            exact am_rv (S := sZ_reckon) (by unfold aZ_reckon1; simp only [if_neg h1, if_neg h2, if_neg h3, if_neg h4, if_pos h6]; try rfl) rfl
          · skip
            refine am_split (fun hz => absurd hz h4) (fun _ => ?_)
            refine am_split (fun h7 => ?_) (fun h7 => ?_)
            · skip
              refine am_call (eZ_set1 j c r ((rZ_get1 j c s) - (rZ_get1 j c t)) i a  (by first | assumption | exact hb (by assumption) (by assumption) | exact hc (by assumption) (by assumption) (by assumption) (by assumption))) ?_
              exact am_rv (S := sZ_reckon) (by unfold aZ_reckon1; simp only [if_neg h1, if_neg h2, if_neg h3, if_neg h4, if_neg h6, if_pos h7]; try rfl) rfl
            · skip
              refine am_split (fun h8 => ?_) (fun h8 => ?_)
              · skip
                refine am_call (eZ_set1 j c r ((rZ_get1 j c s) &&& (rZ_get1 j c t)) i a  (by first | assumption | exact hb (by assumption) (by assumption) | exact hc (by assumption) (by assumption) (by assumption) (by assumption))) ?_
                exact am_rv (S := sZ_reckon) (by unfold aZ_reckon1; simp only [if_neg h1, if_neg h2, if_neg h3, if_neg h4, if_neg h6, if_neg h7, if_pos h8]; try rfl) rfl
              · skip
                refine am_call (eZ_set1 j c r ((rZ_get1 j c s) ||| (rZ_get1 j c t)) i a  (by first | assumption | exact hb (by assumption) (by assumption) | exact hc (by assumption) (by assumption) (by assumption) (by assumption))) ?_
                exact am_rv (S := sZ_reckon) (by unfold aZ_reckon1; simp only [if_neg h1, if_neg h2, if_neg h3, if_neg h4, if_neg h6, if_neg h7, if_neg h8]; try rfl) rfl
end
section
theorem sub_i {x y : Int32} (h1 : -2147483648 ≤ x.toInt - y.toInt) (h2 : x.toInt - y.toInt < 2147483648) : (x - y).toInt = x.toInt - y.toInt := by
  rw [Int32.toInt_sub]
  exact Int.bmod_eq_of_le (by simpa using h1) (by simpa using h2)
theorem div4_i {x : Int32} (h0 : 0 ≤ x.toInt) : (x / 4).toInt = x.toInt / 4 := by
  rw [div_i x 4 (by decide), show (4 : Int32).toInt = 4 from rfl, Int.tdiv_eq_ediv_of_nonneg h0]
theorem in_mv0 {x : Int32} (h0 : ¬ x < 0) (h1 : ¬ (63 : Int32) < x) : vp_in (((16 : Int32) * (0 : Int32)) + x / 4) 32 := by
  rw [lt_i] at h0 h1
  have e0 : (0 : Int32).toInt = 0 := rfl
  have e1 : (63 : Int32).toInt = 63 := rfl
  have e2 : ((16 : Int32) * (0 : Int32)).toInt = 0 := rfl
  have h3 := div4_i (x := x) (by omega)
  exact in_off (by omega) (by omega) (by omega) (by decide)
theorem in_mv1 {x : Int32} (h0 : ¬ x < 0) (h1 : ¬ (63 : Int32) < x) : vp_in (((16 : Int32) * (1 : Int32)) + x / 4) 32 := by
  rw [lt_i] at h0 h1
  have e0 : (0 : Int32).toInt = 0 := rfl
  have e1 : (63 : Int32).toInt = 63 := rfl
  have e2 : ((16 : Int32) * (1 : Int32)).toInt = 16 := rfl
  have h3 := div4_i (x := x) (by omega)
  exact in_off (by omega) (by omega) (by omega) (by decide)
theorem outside_i {x l h : Int32} : rZ_outside x l h = 0 ↔ (l.toInt ≤ x.toInt ∧ x.toInt ≤ h.toInt) := by
  unfold rZ_outside
  simp only [lt_i, le_i]
  split
  · simp; omega
  · split
    · simp; omega
    · simp; omega
theorem in_w0 {x : Int32} (h : rZ_outside x 0 15 = 0) : vp_in (((16 : Int32) * (0 : Int32)) + x) 32 := by
  rw [outside_i] at h
  have e0 : (0 : Int32).toInt = 0 := rfl
  have e1 : (15 : Int32).toInt = 15 := rfl
  have e2 : ((16 : Int32) * (0 : Int32)).toInt = 0 := rfl
  exact in_off (by omega) (by omega) (by omega) (by decide)
theorem in_w1 {x : Int32} (h : rZ_outside x 0 15 = 0) : vp_in (((16 : Int32) * (1 : Int32)) + x) 32 := by
  rw [outside_i] at h
  have e0 : (0 : Int32).toInt = 0 := rfl
  have e1 : (15 : Int32).toInt = 15 := rfl
  have e2 : ((16 : Int32) * (1 : Int32)).toInt = 16 := rfl
  exact in_off (by omega) (by omega) (by omega) (by decide)
theorem in_by {x s : Int32} (hx : 0 ≤ x.toInt) (hs : s.toInt ≤ 256) (h : ¬ s ≤ x) : vp_in x 256 := by
  rw [le_i] at h
  rw [vp_in_iff]
  omega
theorem nn_add {x k : Int32} (h : 0 ≤ x.toInt) (h2 : x.toInt ≤ 1000) (hk : 0 ≤ k.toInt) (hk2 : k.toInt ≤ 1000) : 0 ≤ (x + k).toInt := by
  rw [add_i (by omega) (by omega)]
  omega
noncomputable def rZ_moved0 (j : Nat → Int32) (c : Nat → Nat → Int32) (q r s t : Int32) : Int32 := if (((rZ_get0 j c s) + t) - (4096 : Int32)) < (0 : Int32) then (0 : Int32) else if (63 : Int32) < (((rZ_get0 j c s) + t) - (4096 : Int32)) then (0 : Int32) else if ((((rZ_get0 j c s) + t) - (4096 : Int32)) - (((rZ_get0 j c s) + t) - (4096 : Int32)) / (4 : Int32) * (4 : Int32)) = (0 : Int32) then if q = (6 : Int32) then (1 : Int32) else (1 : Int32) else (0 : Int32)
noncomputable def aZ_moved0 (j : Nat → Int32) (c : Nat → Nat → Int32) (q r s t : Int32) : Nat → Nat → Int32 := if (((rZ_get0 j c s) + t) - (4096 : Int32)) < (0 : Int32) then c else if (63 : Int32) < (((rZ_get0 j c s) + t) - (4096 : Int32)) then c else if ((((rZ_get0 j c s) + t) - (4096 : Int32)) - (((rZ_get0 j c s) + t) - (4096 : Int32)) / (4 : Int32) * (4 : Int32)) = (0 : Int32) then if q = (6 : Int32) then (aZ_set0 j c r ((c 15) (Int32.toNatClampNeg (((16 : Int32) * (0 : Int32)) + ((((rZ_get0 j c s) + t) - (4096 : Int32)) / (4 : Int32)))))) else (sA c (upd (c 15) (Int32.toNatClampNeg (((16 : Int32) * (0 : Int32)) + ((((rZ_get0 j c s) + t) - (4096 : Int32)) / (4 : Int32)))) (rZ_get0 j c r)) 15) else c
set_option maxHeartbeats 4000000 in
set_option maxRecDepth 100000 in
theorem eZ_moved0 (j : Nat → Int32) (c : Nat → Nat → Int32) (q r s t : Int32) (i : Nat → Int32) (a : Nat → Nat → Int32) (ha : inR r) (hb : inR s) : am_Ev sZ_moved [.ref 30, .int (0 : Int32), .int q, .int r, .int s, .int t] (wX i a (wZ j c)) (some (.int (rZ_moved0 j c q r s t))) (wX i a (wZ j (aZ_moved0 j c q r s t))) := by
  refine am_Ev_of cwZ_moved rfl rfl rfl (am_wp_T gdZ_moved 400 ?_)
  refine am_call (eZ_get0 j c s i a  (by assumption)) ?_
  refine am_split (fun h1 => ?_) (fun h1 => ?_)
  · skip
    exact am_ri (S := sZ_moved) (by unfold rZ_moved0; simp only [if_pos h1]; try rfl) (by unfold aZ_moved0; simp only [if_pos h1]; try rfl) rfl rfl
  · skip
    refine am_split (fun h2 => ?_) (fun h2 => ?_)
    · skip
      exact am_ri (S := sZ_moved) (by unfold rZ_moved0; simp only [if_neg h1, if_pos h2]; try rfl) (by unfold aZ_moved0; simp only [if_neg h1, if_pos h2]; try rfl) rfl rfl
    · skip
      refine am_split (fun h3 => ?_) (fun h3 => ?_)
      · skip
        refine am_split (fun h4 => ?_) (fun h4 => ?_)
        · skip
          refine And.intro (by exact in_mv0 (by assumption) (by assumption)) ?_
          refine am_call (eZ_set0 j c r ((c 15) (Int32.toNatClampNeg (((16 : Int32) * (0 : Int32)) + ((((rZ_get0 j c s) + t) - (4096 : Int32)) / (4 : Int32))))) i a  (by assumption)) ?_
          exact am_ri (S := sZ_moved) (by unfold rZ_moved0; simp only [if_neg h1, if_neg h2, if_pos h3, if_pos h4]; try rfl) (by unfold aZ_moved0; simp only [if_neg h1, if_neg h2, if_pos h3, if_pos h4]; try rfl) rfl rfl
        · skip
          refine am_call (eZ_get0 j c r i a  (by assumption)) ?_
          refine And.intro (by exact in_mv0 (by assumption) (by assumption)) ?_
          exact am_ri (S := sZ_moved) (by unfold rZ_moved0; simp only [if_neg h1, if_neg h2, if_pos h3, if_neg h4]; try rfl) (by unfold aZ_moved0; simp only [if_neg h1, if_neg h2, if_pos h3, if_neg h4]; try rfl) rfl rfl
      · skip
        exact am_ri (S := sZ_moved) (by unfold rZ_moved0; simp only [if_neg h1, if_neg h2, if_neg h3]; try rfl) (by unfold aZ_moved0; simp only [if_neg h1, if_neg h2, if_neg h3]; try rfl) rfl rfl
theorem zoZ_moved0 (j : Nat → Int32) (c : Nat → Nat → Int32) (q r s t : Int32) : rZ_moved0 j c q r s t = 0 ∨ rZ_moved0 j c q r s t = 1 := by
  unfold rZ_moved0
  repeat' (first | with_reducible refine zo_ite ?_ ?_ | with_reducible exact Or.inl rfl | with_reducible exact Or.inr rfl)
noncomputable def rZ_state_0 (j : Nat → Int32) (c : Nat → Nat → Int32) (q : Int32) : Int32 := if (rZ_outside q (0 : Int32) (2 : Int32)) = (0 : Int32) then if ((c 20) (Int32.toNatClampNeg (0 : Int32))) = (0 : Int32) then (0 : Int32) else if q = (0 : Int32) then ((c 18) (Int32.toNatClampNeg (0 : Int32))) else if q = (1 : Int32) then ((c 19) (Int32.toNatClampNeg (0 : Int32))) else ((c 17) (Int32.toNatClampNeg (0 : Int32))) else (-1 : Int32)
set_option maxHeartbeats 4000000 in
set_option maxRecDepth 100000 in
theorem eZ_state_0 (j : Nat → Int32) (c : Nat → Nat → Int32) (q : Int32) (i : Nat → Int32) (a : Nat → Nat → Int32) : am_Ev sZ_state [.ref 30, .int (0 : Int32), .int q] (wX i a (wZ j c)) (some (.int (rZ_state_0 j c q))) (wX i a (wZ j c)) := by
  refine am_Ev_of cwZ_state rfl rfl rfl (am_wp_T gdZ_state 400 ?_)
  refine am_call (eZ_outside (0 : Int32) (0 : Int32) (1 : Int32) _) ?_
  refine am_split (fun _ => ?_) (fun hz => absurd (by decide) hz)
  refine am_call (eZ_outside q (0 : Int32) (2 : Int32) _) ?_
  refine am_split (fun h1 => ?_) (fun h1 => ?_)
  · skip
    refine And.intro (by exact vp_lit rfl) ?_
    refine am_split (fun h2 => ?_) (fun h2 => ?_)
    · skip
      exact am_ri (S := sZ_state) (by unfold rZ_state_0; simp only [if_pos h1, if_pos h2]; try rfl) rfl rfl rfl
    · skip
      refine am_split (fun h3 => ?_) (fun h3 => ?_)
      · skip
        refine And.intro (by exact vp_lit rfl) ?_
        exact am_ri (S := sZ_state) (by unfold rZ_state_0; simp only [if_pos h1, if_neg h2, if_pos h3]; try rfl) rfl rfl rfl
      · skip
        refine am_split (fun h4 => ?_) (fun h4 => ?_)
        · skip
          refine And.intro (by exact vp_lit rfl) ?_
          exact am_ri (S := sZ_state) (by unfold rZ_state_0; simp only [if_pos h1, if_neg h2, if_neg h3, if_pos h4]; try rfl) rfl rfl rfl
        · skip
          refine And.intro (by exact vp_lit rfl) ?_
          exact am_ri (S := sZ_state) (by unfold rZ_state_0; simp only [if_pos h1, if_neg h2, if_neg h3, if_neg h4]; try rfl) rfl rfl rfl
  · skip
    exact am_ri (S := sZ_state) (by unfold rZ_state_0; simp only [if_neg h1]; try rfl) rfl rfl rfl
noncomputable def rZ_output_0 (j : Nat → Int32) (c : Nat → Nat → Int32) (q : Int32) : Int32 := if q < (0 : Int32) then (0 : Int32) else if q < ((c 17) (Int32.toNatClampNeg (0 : Int32))) then ((c 16) (Int32.toNatClampNeg (((40 : Int32) * (0 : Int32)) + q))) else (0 : Int32)
set_option maxHeartbeats 4000000 in
set_option maxRecDepth 100000 in
theorem eZ_output_0 (j : Nat → Int32) (c : Nat → Nat → Int32) (q : Int32) (i : Nat → Int32) (a : Nat → Nat → Int32) (hz : ¬ q < 0 → q < c 17 (Int32.toNatClampNeg (0 : Int32)) → vp_in (((40 : Int32) * (0 : Int32)) + q) 80) : am_Ev sZ_output [.ref 30, .int (0 : Int32), .int q] (wX i a (wZ j c)) (some (.int (rZ_output_0 j c q))) (wX i a (wZ j c)) := by
  refine am_Ev_of cwZ_output rfl rfl rfl (am_wp_T gdZ_output 400 ?_)
  refine am_call (eZ_outside (0 : Int32) (0 : Int32) (1 : Int32) _) ?_
  refine am_split (fun _ => ?_) (fun hz => absurd (by decide) hz)
  refine am_split (fun h1 => ?_) (fun h1 => ?_)
  · skip
    exact am_ri (S := sZ_output) (by unfold rZ_output_0; simp only [if_pos h1]; try rfl) rfl rfl rfl
  · skip
    refine And.intro (by exact vp_lit rfl) ?_
    refine am_split (fun h2 => ?_) (fun h2 => ?_)
    · skip
      refine And.intro (by exact hz (by assumption) (by assumption)) ?_
      exact am_ri (S := sZ_output) (by unfold rZ_output_0; simp only [if_neg h1, if_pos h2]; try rfl) rfl rfl rfl
    · skip
      exact am_ri (S := sZ_output) (by unfold rZ_output_0; simp only [if_neg h1, if_neg h2]; try rfl) rfl rfl rfl
noncomputable def rZ_register_0 (j : Nat → Int32) (c : Nat → Nat → Int32) (q : Int32) : Int32 := if (rZ_notRegister q) = (0 : Int32) then ((c 14) (Int32.toNatClampNeg (((32 : Int32) * (0 : Int32)) + q))) else (0 : Int32)
set_option maxHeartbeats 4000000 in
set_option maxRecDepth 100000 in
theorem eZ_register_0 (j : Nat → Int32) (c : Nat → Nat → Int32) (q : Int32) (i : Nat → Int32) (a : Nat → Nat → Int32) : am_Ev sZ_register [.ref 30, .int (0 : Int32), .int q] (wX i a (wZ j c)) (some (.int (rZ_register_0 j c q))) (wX i a (wZ j c)) := by
  refine am_Ev_of cwZ_register rfl rfl rfl (am_wp_T gdZ_register 400 ?_)
  refine am_call (eZ_outside (0 : Int32) (0 : Int32) (1 : Int32) _) ?_
  refine am_split (fun _ => ?_) (fun hz => absurd (by decide) hz)
  refine am_call (eZ_notRegister q _) ?_
  refine am_split (fun h1 => ?_) (fun h1 => ?_)
  · skip
    refine And.intro (by exact in_rg0 (inR_of (by assumption))) ?_
    exact am_ri (S := sZ_register) (by unfold rZ_register_0; simp only [if_pos h1]; try rfl) rfl rfl rfl
  · skip
    exact am_ri (S := sZ_register) (by unfold rZ_register_0; simp only [if_neg h1]; try rfl) rfl rfl rfl
noncomputable def rZ_word_0 (j : Nat → Int32) (c : Nat → Nat → Int32) (q : Int32) : Int32 := if (rZ_outside q (0 : Int32) (15 : Int32)) = (0 : Int32) then ((c 15) (Int32.toNatClampNeg (((16 : Int32) * (0 : Int32)) + q))) else (0 : Int32)
set_option maxHeartbeats 4000000 in
set_option maxRecDepth 100000 in
theorem eZ_word_0 (j : Nat → Int32) (c : Nat → Nat → Int32) (q : Int32) (i : Nat → Int32) (a : Nat → Nat → Int32) : am_Ev sZ_word [.ref 30, .int (0 : Int32), .int q] (wX i a (wZ j c)) (some (.int (rZ_word_0 j c q))) (wX i a (wZ j c)) := by
  refine am_Ev_of cwZ_word rfl rfl rfl (am_wp_T gdZ_word 400 ?_)
  refine am_call (eZ_outside (0 : Int32) (0 : Int32) (1 : Int32) _) ?_
  refine am_split (fun _ => ?_) (fun hz => absurd (by decide) hz)
  refine am_call (eZ_outside q (0 : Int32) (15 : Int32) _) ?_
  refine am_split (fun h1 => ?_) (fun h1 => ?_)
  · skip
    refine And.intro (by exact in_w0 (by assumption)) ?_
    exact am_ri (S := sZ_word) (by unfold rZ_word_0; simp only [if_pos h1]; try rfl) rfl rfl rfl
  · skip
    exact am_ri (S := sZ_word) (by unfold rZ_word_0; simp only [if_neg h1]; try rfl) rfl rfl rfl
noncomputable def rZ_moved1 (j : Nat → Int32) (c : Nat → Nat → Int32) (q r s t : Int32) : Int32 := if (((rZ_get1 j c s) + t) - (4096 : Int32)) < (0 : Int32) then (0 : Int32) else if (63 : Int32) < (((rZ_get1 j c s) + t) - (4096 : Int32)) then (0 : Int32) else if ((((rZ_get1 j c s) + t) - (4096 : Int32)) - (((rZ_get1 j c s) + t) - (4096 : Int32)) / (4 : Int32) * (4 : Int32)) = (0 : Int32) then if q = (6 : Int32) then (1 : Int32) else (1 : Int32) else (0 : Int32)
noncomputable def aZ_moved1 (j : Nat → Int32) (c : Nat → Nat → Int32) (q r s t : Int32) : Nat → Nat → Int32 := if (((rZ_get1 j c s) + t) - (4096 : Int32)) < (0 : Int32) then c else if (63 : Int32) < (((rZ_get1 j c s) + t) - (4096 : Int32)) then c else if ((((rZ_get1 j c s) + t) - (4096 : Int32)) - (((rZ_get1 j c s) + t) - (4096 : Int32)) / (4 : Int32) * (4 : Int32)) = (0 : Int32) then if q = (6 : Int32) then (aZ_set1 j c r ((c 15) (Int32.toNatClampNeg (((16 : Int32) * (1 : Int32)) + ((((rZ_get1 j c s) + t) - (4096 : Int32)) / (4 : Int32)))))) else (sA c (upd (c 15) (Int32.toNatClampNeg (((16 : Int32) * (1 : Int32)) + ((((rZ_get1 j c s) + t) - (4096 : Int32)) / (4 : Int32)))) (rZ_get1 j c r)) 15) else c
set_option maxHeartbeats 4000000 in
set_option maxRecDepth 100000 in
theorem eZ_moved1 (j : Nat → Int32) (c : Nat → Nat → Int32) (q r s t : Int32) (i : Nat → Int32) (a : Nat → Nat → Int32) (ha : inR r) (hb : inR s) : am_Ev sZ_moved [.ref 30, .int (1 : Int32), .int q, .int r, .int s, .int t] (wX i a (wZ j c)) (some (.int (rZ_moved1 j c q r s t))) (wX i a (wZ j (aZ_moved1 j c q r s t))) := by
  refine am_Ev_of cwZ_moved rfl rfl rfl (am_wp_T gdZ_moved 400 ?_)
  refine am_call (eZ_get1 j c s i a  (by assumption)) ?_
  refine am_split (fun h1 => ?_) (fun h1 => ?_)
  · skip
    exact am_ri (S := sZ_moved) (by unfold rZ_moved1; simp only [if_pos h1]; try rfl) (by unfold aZ_moved1; simp only [if_pos h1]; try rfl) rfl rfl
  · skip
    refine am_split (fun h2 => ?_) (fun h2 => ?_)
    · skip
      exact am_ri (S := sZ_moved) (by unfold rZ_moved1; simp only [if_neg h1, if_pos h2]; try rfl) (by unfold aZ_moved1; simp only [if_neg h1, if_pos h2]; try rfl) rfl rfl
    · skip
      refine am_split (fun h3 => ?_) (fun h3 => ?_)
      · skip
        refine am_split (fun h4 => ?_) (fun h4 => ?_)
        · skip
          refine And.intro (by exact in_mv1 (by assumption) (by assumption)) ?_
          refine am_call (eZ_set1 j c r ((c 15) (Int32.toNatClampNeg (((16 : Int32) * (1 : Int32)) + ((((rZ_get1 j c s) + t) - (4096 : Int32)) / (4 : Int32))))) i a  (by assumption)) ?_
          exact am_ri (S := sZ_moved) (by unfold rZ_moved1; simp only [if_neg h1, if_neg h2, if_pos h3, if_pos h4]; try rfl) (by unfold aZ_moved1; simp only [if_neg h1, if_neg h2, if_pos h3, if_pos h4]; try rfl) rfl rfl
        · skip
          refine am_call (eZ_get1 j c r i a  (by assumption)) ?_
          refine And.intro (by exact in_mv1 (by assumption) (by assumption)) ?_
          exact am_ri (S := sZ_moved) (by unfold rZ_moved1; simp only [if_neg h1, if_neg h2, if_pos h3, if_neg h4]; try rfl) (by unfold aZ_moved1; simp only [if_neg h1, if_neg h2, if_pos h3, if_neg h4]; try rfl) rfl rfl
      · skip
        exact am_ri (S := sZ_moved) (by unfold rZ_moved1; simp only [if_neg h1, if_neg h2, if_neg h3]; try rfl) (by unfold aZ_moved1; simp only [if_neg h1, if_neg h2, if_neg h3]; try rfl) rfl rfl
theorem zoZ_moved1 (j : Nat → Int32) (c : Nat → Nat → Int32) (q r s t : Int32) : rZ_moved1 j c q r s t = 0 ∨ rZ_moved1 j c q r s t = 1 := by
  unfold rZ_moved1
  repeat' (first | with_reducible refine zo_ite ?_ ?_ | with_reducible exact Or.inl rfl | with_reducible exact Or.inr rfl)
noncomputable def rZ_state_1 (j : Nat → Int32) (c : Nat → Nat → Int32) (q : Int32) : Int32 := if (rZ_outside q (0 : Int32) (2 : Int32)) = (0 : Int32) then if ((c 20) (Int32.toNatClampNeg (1 : Int32))) = (0 : Int32) then (0 : Int32) else if q = (0 : Int32) then ((c 18) (Int32.toNatClampNeg (1 : Int32))) else if q = (1 : Int32) then ((c 19) (Int32.toNatClampNeg (1 : Int32))) else ((c 17) (Int32.toNatClampNeg (1 : Int32))) else (-1 : Int32)
set_option maxHeartbeats 4000000 in
set_option maxRecDepth 100000 in
theorem eZ_state_1 (j : Nat → Int32) (c : Nat → Nat → Int32) (q : Int32) (i : Nat → Int32) (a : Nat → Nat → Int32) : am_Ev sZ_state [.ref 30, .int (1 : Int32), .int q] (wX i a (wZ j c)) (some (.int (rZ_state_1 j c q))) (wX i a (wZ j c)) := by
  refine am_Ev_of cwZ_state rfl rfl rfl (am_wp_T gdZ_state 400 ?_)
  refine am_call (eZ_outside (1 : Int32) (0 : Int32) (1 : Int32) _) ?_
  refine am_split (fun _ => ?_) (fun hz => absurd (by decide) hz)
  refine am_call (eZ_outside q (0 : Int32) (2 : Int32) _) ?_
  refine am_split (fun h1 => ?_) (fun h1 => ?_)
  · skip
    refine And.intro (by exact vp_lit rfl) ?_
    refine am_split (fun h2 => ?_) (fun h2 => ?_)
    · skip
      exact am_ri (S := sZ_state) (by unfold rZ_state_1; simp only [if_pos h1, if_pos h2]; try rfl) rfl rfl rfl
    · skip
      refine am_split (fun h3 => ?_) (fun h3 => ?_)
      · skip
        refine And.intro (by exact vp_lit rfl) ?_
        exact am_ri (S := sZ_state) (by unfold rZ_state_1; simp only [if_pos h1, if_neg h2, if_pos h3]; try rfl) rfl rfl rfl
      · skip
        refine am_split (fun h4 => ?_) (fun h4 => ?_)
        · skip
          refine And.intro (by exact vp_lit rfl) ?_
          exact am_ri (S := sZ_state) (by unfold rZ_state_1; simp only [if_pos h1, if_neg h2, if_neg h3, if_pos h4]; try rfl) rfl rfl rfl
        · skip
          refine And.intro (by exact vp_lit rfl) ?_
          exact am_ri (S := sZ_state) (by unfold rZ_state_1; simp only [if_pos h1, if_neg h2, if_neg h3, if_neg h4]; try rfl) rfl rfl rfl
  · skip
    exact am_ri (S := sZ_state) (by unfold rZ_state_1; simp only [if_neg h1]; try rfl) rfl rfl rfl
noncomputable def rZ_output_1 (j : Nat → Int32) (c : Nat → Nat → Int32) (q : Int32) : Int32 := if q < (0 : Int32) then (0 : Int32) else if q < ((c 17) (Int32.toNatClampNeg (1 : Int32))) then ((c 16) (Int32.toNatClampNeg (((40 : Int32) * (1 : Int32)) + q))) else (0 : Int32)
set_option maxHeartbeats 4000000 in
set_option maxRecDepth 100000 in
theorem eZ_output_1 (j : Nat → Int32) (c : Nat → Nat → Int32) (q : Int32) (i : Nat → Int32) (a : Nat → Nat → Int32) (hz : ¬ q < 0 → q < c 17 (Int32.toNatClampNeg (1 : Int32)) → vp_in (((40 : Int32) * (1 : Int32)) + q) 80) : am_Ev sZ_output [.ref 30, .int (1 : Int32), .int q] (wX i a (wZ j c)) (some (.int (rZ_output_1 j c q))) (wX i a (wZ j c)) := by
  refine am_Ev_of cwZ_output rfl rfl rfl (am_wp_T gdZ_output 400 ?_)
  refine am_call (eZ_outside (1 : Int32) (0 : Int32) (1 : Int32) _) ?_
  refine am_split (fun _ => ?_) (fun hz => absurd (by decide) hz)
  refine am_split (fun h1 => ?_) (fun h1 => ?_)
  · skip
    exact am_ri (S := sZ_output) (by unfold rZ_output_1; simp only [if_pos h1]; try rfl) rfl rfl rfl
  · skip
    refine And.intro (by exact vp_lit rfl) ?_
    refine am_split (fun h2 => ?_) (fun h2 => ?_)
    · skip
      refine And.intro (by exact hz (by assumption) (by assumption)) ?_
      exact am_ri (S := sZ_output) (by unfold rZ_output_1; simp only [if_neg h1, if_pos h2]; try rfl) rfl rfl rfl
    · skip
      exact am_ri (S := sZ_output) (by unfold rZ_output_1; simp only [if_neg h1, if_neg h2]; try rfl) rfl rfl rfl
noncomputable def rZ_register_1 (j : Nat → Int32) (c : Nat → Nat → Int32) (q : Int32) : Int32 := if (rZ_notRegister q) = (0 : Int32) then ((c 14) (Int32.toNatClampNeg (((32 : Int32) * (1 : Int32)) + q))) else (0 : Int32)
set_option maxHeartbeats 4000000 in
set_option maxRecDepth 100000 in
theorem eZ_register_1 (j : Nat → Int32) (c : Nat → Nat → Int32) (q : Int32) (i : Nat → Int32) (a : Nat → Nat → Int32) : am_Ev sZ_register [.ref 30, .int (1 : Int32), .int q] (wX i a (wZ j c)) (some (.int (rZ_register_1 j c q))) (wX i a (wZ j c)) := by
  refine am_Ev_of cwZ_register rfl rfl rfl (am_wp_T gdZ_register 400 ?_)
  refine am_call (eZ_outside (1 : Int32) (0 : Int32) (1 : Int32) _) ?_
  refine am_split (fun _ => ?_) (fun hz => absurd (by decide) hz)
  refine am_call (eZ_notRegister q _) ?_
  refine am_split (fun h1 => ?_) (fun h1 => ?_)
  · skip
    refine And.intro (by exact in_rg1 (inR_of (by assumption))) ?_
    exact am_ri (S := sZ_register) (by unfold rZ_register_1; simp only [if_pos h1]; try rfl) rfl rfl rfl
  · skip
    exact am_ri (S := sZ_register) (by unfold rZ_register_1; simp only [if_neg h1]; try rfl) rfl rfl rfl
noncomputable def rZ_word_1 (j : Nat → Int32) (c : Nat → Nat → Int32) (q : Int32) : Int32 := if (rZ_outside q (0 : Int32) (15 : Int32)) = (0 : Int32) then ((c 15) (Int32.toNatClampNeg (((16 : Int32) * (1 : Int32)) + q))) else (0 : Int32)
set_option maxHeartbeats 4000000 in
set_option maxRecDepth 100000 in
theorem eZ_word_1 (j : Nat → Int32) (c : Nat → Nat → Int32) (q : Int32) (i : Nat → Int32) (a : Nat → Nat → Int32) : am_Ev sZ_word [.ref 30, .int (1 : Int32), .int q] (wX i a (wZ j c)) (some (.int (rZ_word_1 j c q))) (wX i a (wZ j c)) := by
  refine am_Ev_of cwZ_word rfl rfl rfl (am_wp_T gdZ_word 400 ?_)
  refine am_call (eZ_outside (1 : Int32) (0 : Int32) (1 : Int32) _) ?_
  refine am_split (fun _ => ?_) (fun hz => absurd (by decide) hz)
  refine am_call (eZ_outside q (0 : Int32) (15 : Int32) _) ?_
  refine am_split (fun h1 => ?_) (fun h1 => ?_)
  · skip
    refine And.intro (by exact in_w1 (by assumption)) ?_
    exact am_ri (S := sZ_word) (by unfold rZ_word_1; simp only [if_pos h1]; try rfl) rfl rfl rfl
  · skip
    exact am_ri (S := sZ_word) (by unfold rZ_word_1; simp only [if_neg h1]; try rfl) rfl rfl rfl
noncomputable def rZ_state_n (j : Nat → Int32) (c : Nat → Nat → Int32) (p q : Int32) : Int32 := (-1 : Int32)
set_option maxHeartbeats 4000000 in
set_option maxRecDepth 100000 in
theorem eZ_state_n (j : Nat → Int32) (c : Nat → Nat → Int32) (p q : Int32) (i : Nat → Int32) (a : Nat → Nat → Int32) (k0 : ¬ rZ_outside p (0 : Int32) (1 : Int32) = (0 : Int32)) : am_Ev sZ_state [.ref 30, .int p, .int q] (wX i a (wZ j c)) (some (.int (rZ_state_n j c p q))) (wX i a (wZ j c)) := by
  refine am_Ev_of cwZ_state rfl rfl rfl (am_wp_T gdZ_state 400 ?_)
  refine am_call (eZ_outside p (0 : Int32) (1 : Int32) _) ?_
  refine am_split (fun hz => absurd hz k0) (fun _ => ?_)
  exact am_ri (S := sZ_state) rfl rfl rfl rfl
noncomputable def rZ_output_n (j : Nat → Int32) (c : Nat → Nat → Int32) (p q : Int32) : Int32 := (0 : Int32)
set_option maxHeartbeats 4000000 in
set_option maxRecDepth 100000 in
theorem eZ_output_n (j : Nat → Int32) (c : Nat → Nat → Int32) (p q : Int32) (i : Nat → Int32) (a : Nat → Nat → Int32) (k0 : ¬ rZ_outside p (0 : Int32) (1 : Int32) = (0 : Int32)) : am_Ev sZ_output [.ref 30, .int p, .int q] (wX i a (wZ j c)) (some (.int (rZ_output_n j c p q))) (wX i a (wZ j c)) := by
  refine am_Ev_of cwZ_output rfl rfl rfl (am_wp_T gdZ_output 400 ?_)
  refine am_call (eZ_outside p (0 : Int32) (1 : Int32) _) ?_
  refine am_split (fun hz => absurd hz k0) (fun _ => ?_)
  exact am_ri (S := sZ_output) rfl rfl rfl rfl
noncomputable def rZ_register_n (j : Nat → Int32) (c : Nat → Nat → Int32) (p q : Int32) : Int32 := (0 : Int32)
set_option maxHeartbeats 4000000 in
set_option maxRecDepth 100000 in
theorem eZ_register_n (j : Nat → Int32) (c : Nat → Nat → Int32) (p q : Int32) (i : Nat → Int32) (a : Nat → Nat → Int32) (k0 : ¬ rZ_outside p (0 : Int32) (1 : Int32) = (0 : Int32)) : am_Ev sZ_register [.ref 30, .int p, .int q] (wX i a (wZ j c)) (some (.int (rZ_register_n j c p q))) (wX i a (wZ j c)) := by
  refine am_Ev_of cwZ_register rfl rfl rfl (am_wp_T gdZ_register 400 ?_)
  refine am_call (eZ_outside p (0 : Int32) (1 : Int32) _) ?_
  refine am_split (fun hz => absurd hz k0) (fun _ => ?_)
  exact am_ri (S := sZ_register) rfl rfl rfl rfl
noncomputable def rZ_word_n (j : Nat → Int32) (c : Nat → Nat → Int32) (p q : Int32) : Int32 := (0 : Int32)
set_option maxHeartbeats 4000000 in
set_option maxRecDepth 100000 in
theorem eZ_word_n (j : Nat → Int32) (c : Nat → Nat → Int32) (p q : Int32) (i : Nat → Int32) (a : Nat → Nat → Int32) (k0 : ¬ rZ_outside p (0 : Int32) (1 : Int32) = (0 : Int32)) : am_Ev sZ_word [.ref 30, .int p, .int q] (wX i a (wZ j c)) (some (.int (rZ_word_n j c p q))) (wX i a (wZ j c)) := by
  refine am_Ev_of cwZ_word rfl rfl rfl (am_wp_T gdZ_word 400 ?_)
  refine am_call (eZ_outside p (0 : Int32) (1 : Int32) _) ?_
  refine am_split (fun hz => absurd hz k0) (fun _ => ?_)
  exact am_ri (S := sZ_word) rfl rfl rfl rfl
noncomputable def rZ_bitsAt (j : Nat → Int32) (c : Nat → Nat → Int32) (p : Int32) : Int32 := if (rZ_isLong ((rZ_byteAt j c p) ||| ((rZ_byteAt j c (p + (1 : Int32))) <<< ((8 : Int32) &&& 31)))) = (0 : Int32) then ((rZ_byteAt j c p) ||| ((rZ_byteAt j c (p + (1 : Int32))) <<< ((8 : Int32) &&& 31))) else ((((rZ_byteAt j c p) ||| ((rZ_byteAt j c (p + (1 : Int32))) <<< ((8 : Int32) &&& 31))) ||| ((rZ_byteAt j c (p + (2 : Int32))) <<< ((16 : Int32) &&& 31))) ||| ((rZ_byteAt j c (p + (3 : Int32))) <<< ((24 : Int32) &&& 31)))
set_option maxHeartbeats 4000000 in
set_option maxRecDepth 100000 in
theorem eZ_bitsAt (j : Nat → Int32) (c : Nat → Nat → Int32) (p : Int32) (i : Nat → Int32) (a : Nat → Nat → Int32) (hp : 0 ≤ p.toInt) (hp2 : p.toInt ≤ 1000) (hs : (j 3).toInt ≤ 256) : am_Ev sZ_bitsAt [.ref 30, .int p] (wX i a (wZ j c)) (some (.int (rZ_bitsAt j c p))) (wX i a (wZ j c)) := by
  refine am_Ev_of cwZ_bitsAt rfl rfl rfl (am_wp_T gdZ_bitsAt 400 ?_)
  refine am_call (eZ_byteAt j c p i a  (by intro hq; exact in_by (by first | exact hp | exact nn_add hp hp2 (by decide) (by decide)) hs hq)) ?_
  refine am_call (eZ_byteAt j c (p + (1 : Int32)) i a  (by intro hq; exact in_by (by first | exact hp | exact nn_add hp hp2 (by decide) (by decide)) hs hq)) ?_
  refine am_call (eZ_isLong ((rZ_byteAt j c p) ||| ((rZ_byteAt j c (p + (1 : Int32))) <<< ((8 : Int32) &&& 31))) _) ?_
  refine am_split (fun h1 => ?_) (fun h1 => ?_)
  · skip
    exact am_ri (S := sZ_bitsAt) (by unfold rZ_bitsAt; simp only [if_pos h1]; try rfl) rfl rfl rfl
  · skip
    refine am_call (eZ_byteAt j c (p + (2 : Int32)) i a  (by intro hq; exact in_by (by first | exact hp | exact nn_add hp hp2 (by decide) (by decide)) hs hq)) ?_
    refine am_call (eZ_byteAt j c (p + (3 : Int32)) i a  (by intro hq; exact in_by (by first | exact hp | exact nn_add hp hp2 (by decide) (by decide)) hs hq)) ?_
    exact am_ri (S := sZ_bitsAt) (by unfold rZ_bitsAt; simp only [if_neg h1]; try rfl) rfl rfl rfl
end
section
/-! walks that stop at loops' heads -/
def am_wt (S : am_Sg) (cd : am_Cd) (stops : List Nat) (r : Option Value) (ab' : List am_Cl) : Nat → am_Ps
  | 0 => am_T S r ab'
  | f + 1 => fun pc L st ab k n => cond (am_in stops pc) (am_T S r ab' pc L st ab k n) (match am_lk pc cd with
    | some q => am_s1 S r ab' (am_T S r ab') (am_wt S cd stops r ab' f) q.2 q.1 L st ab k n
    | none => False)
def am_wu (S : am_Sg) (cd : am_Cd) (stops : List Nat) (r : Option Value) (ab' : List am_Cl) (f : Nat) : am_Ps := fun pc L st ab k n => match am_lk pc cd with
    | some q => am_s1 S r ab' (am_T S r ab') (am_wt S cd stops r ab' f) q.2 q.1 L st ab k n
    | none => False
theorem am_wt_T {S : am_Sg} {r : Option Value} {ab' : List am_Cl} {cd : am_Cd} (hg : am_Good S cd) (stops : List Nat) : ∀ (f : Nat) {pc : Nat} {L st : List Value} {ab : List am_Cl} {k n : Nat}, am_wt S cd stops r ab' f pc L st ab k n → am_T S r ab' pc L st ab k n
  | 0, pc, L, st, ab, k, n, h => h
  | f + 1, pc, L, st, ab, k, n, h => by
    rw [am_wt] at h
    cases hs : am_in stops pc with
    | true => rw [hs] at h; exact h
    | false =>
      rw [hs] at h
      simp only [cond_false] at h
      split at h
      · rename_i q hq
        obtain ⟨h1, h2⟩ := am_Good_row hg hq
        rw [h2] at h h1
        exact am_s1_T (fun pc L st ab k n hh => am_wt_T hg stops f hh) h1 h
      · exact h.elim
theorem am_wu_T {S : am_Sg} {r : Option Value} {ab' : List am_Cl} {cd : am_Cd} (hg : am_Good S cd) (stops : List Nat) (f : Nat) {pc : Nat} {L st : List Value} {ab : List am_Cl} {k n : Nat} (h : am_wu S cd stops r ab' f pc L st ab k n) : am_T S r ab' pc L st ab k n := by
  unfold am_wu at h
  split at h
  · rename_i q hq
    obtain ⟨h1, h2⟩ := am_Good_row hg hq
    rw [h2] at h h1
    exact am_s1_T (fun pc L st ab k n hh => am_wt_T hg stops f hh) h1 h
  · exact h.elim
theorem am_Tc {S : am_Sg} {r r1 : Option Value} {w w1 : List am_Cl} {pc : Nat} {L st : List Value} {ab : List am_Cl} {k n : Nat} (h : am_T S r1 w1 pc L st ab k n) (e1 : r = r1) (e2 : w = w1) : am_T S r w pc L st ab k n := by
  rw [e1, e2]; exact h
/-- fewer locals known -/
def am_lle : List Value → List Value → Prop
  | [], [] => True
  | a :: l, b :: m => (a = .retAddr 0 ∨ a = b) ∧ am_lle l m
  | _, _ => False
theorem am_lle_ok : ∀ {l m : List Value}, am_lle l m → l.length = m.length ∧ ∀ (i : Nat) (v : Value), l[i]? = some v → am_ok v = true → m[i]? = some v
  | [], [], _ => ⟨rfl, fun i v h => by simp at h⟩
  | a :: l, b :: m, h => by
    obtain ⟨h1, h2⟩ := am_lle_ok h.2
    refine ⟨by simp [h1], fun i v hv ho => ?_⟩
    cases i with
    | zero =>
      simp at hv
      subst hv
      rcases h.1 with e | e
      · rw [e] at ho; cases ho
      · simp [e]
    | succ i =>
      simp at hv ⊢
      exact h2 i v hv ho
  | [], _ :: _, h => h.elim
  | _ :: _, [], h => h.elim
theorem am_Tw {S : am_Sg} {r : Option Value} {w : List am_Cl} {pc : Nat} {L0 L st : List Value} {ab : List am_Cl} {k n : Nat} (h : am_T S r w pc L0 st ab k n) (hl : am_lle L0 L) : am_T S r w pc L st ab k n := by
  intro l D cI cZ b p e s m args below meth c H locs ls hC hH hS hL hlen
  obtain ⟨h1, h2⟩ := am_lle_ok hl
  refine h l D cI cZ b p e s m args below meth c H locs ls hC hH hS ⟨hL.1, hL.2.1, fun q hq => ?_⟩ (h1.trans hlen)
  obtain ⟨v, g1, g2, g3⟩ := am_lv_inv hq
  have := hL.2.2 _ (am_lv_mem (b := b) (h2 _ _ g1 g2) g2)
  rw [g3]; exact this
theorem ms_up {n M : Int32} {f : Nat} (h : ¬ M ≤ n) (hm : (M.toInt - n.toInt).toNat < f + 1) : (M.toInt - (n + 1).toInt).toNat < f := by
  rw [le_i] at h
  have h1 : M.toInt ≤ 2147483647 := by have := Int32.toInt_lt M; omega
  have h2 : -2147483648 ≤ n.toInt := Int32.le_toInt n
  rw [add_i (x := n) (y := 1) (by rw [show (1 : Int32).toInt = 1 from rfl]; omega) (by rw [show (1 : Int32).toInt = 1 from rfl]; omega), show (1 : Int32).toInt = 1 from rfl]
  omega
end
section
/-! walks by program: the class's loops -/
theorem i32_hi (x : Int32) : x.toInt < 2147483648 := Int32.toInt_lt x
theorem i32_lo (x : Int32) : -2147483648 ≤ x.toInt := Int32.le_toInt x
theorem up_i {n M : Int32} (h : ¬ M ≤ n) : (n + 1).toInt = n.toInt + 1 := by
  rw [le_i] at h
  have h1 := i32_hi M
  have h2 := i32_lo n
  rw [add_i (x := n) (y := 1) (by rw [show (1 : Int32).toInt = 1 from rfl]; omega) (by rw [show (1 : Int32).toInt = 1 from rfl]; omega), show (1 : Int32).toInt = 1 from rfl]
theorem nn_up {n M : Int32} (h0 : 0 ≤ n.toInt) (h : ¬ M ≤ n) : 0 ≤ (n + 1).toInt := by rw [up_i h]; omega
theorem vp_nn {x M : Int32} {N : Nat} (h0 : 0 ≤ x.toInt) (h1 : ¬ M ≤ x) (hM : M.toInt ≤ N) : vp_in x N := by
  rw [le_i] at h1
  rw [vp_in_iff]
  omega
theorem within_ok {x l h : Int32} (hw : ¬ rX_within x l h = 0) : l.toInt ≤ x.toInt ∧ x.toInt ≤ h.toInt := by
  rw [within_i, Decidable.not_not] at hw
  exact hw
theorem wn0 {x h : Int32} (hw : ¬ rX_within x 0 h = 0) : 0 ≤ x.toInt := (within_ok hw).1
theorem ms_ule {n M : Int32} {f : Nat} (h : ¬ M < n) (hM : M.toInt ≤ 1000) (hm : (M.toInt + 1 - n.toInt).toNat < f + 1) : (M.toInt + 1 - (n + 1).toInt).toNat < f := by
  rw [lt_i] at h
  have h2 := i32_lo n
  rw [add_i (x := n) (y := 1) (by rw [show (1 : Int32).toInt = 1 from rfl]; omega) (by rw [show (1 : Int32).toInt = 1 from rfl]; omega), show (1 : Int32).toInt = 1 from rfl]
  omega
theorem ms_dn {n : Int32} {f : Nat} (h : ¬ n ≤ 0) (hm : n.toInt.toNat < f + 1) : (n + (-1)).toInt.toNat < f := by
  rw [le_i, show (0 : Int32).toInt = 0 from rfl] at h
  have h1 := i32_hi n
  rw [add_i (x := n) (y := -1) (by rw [show (-1 : Int32).toInt = -1 from rfl]; omega) (by rw [show (-1 : Int32).toInt = -1 from rfl]; omega), show (-1 : Int32).toInt = -1 from rfl]
  omega
theorem min_le {c : Int32} : (if (20 : Int32) < c then (20 : Int32) else c).toInt ≤ 20 := by
  split
  · decide
  · rename_i h
    rw [lt_i, show (20 : Int32).toInt = 20 from rfl] at h
    omega
theorem min_nn {c : Int32} (h : 0 ≤ c.toInt) : 0 ≤ (if (20 : Int32) < c then (20 : Int32) else c).toInt := by
  split
  · decide
  · exact h
noncomputable def rC_resize_l : Nat → (Nat → Int32) → (Nat → Nat → Int32) → Int32 → Int32 → Int32
  | 0, _, _, _, _ => 0
  | f + 1, i, a, n, k => if (256 : Int32) ≤ k then (1 : Int32) else (rC_resize_l f i (sA a (upd (a 12) (Int32.toNatClampNeg k) (0 : Int32)) 12) n (k + (1 : Int32)))
noncomputable def iC_resize_l : Nat → (Nat → Int32) → (Nat → Nat → Int32) → Int32 → Int32 → Nat → Int32
  | 0, i, _, _, _ => i
  | f + 1, i, a, n, k => if (256 : Int32) ≤ k then (sI i n 5) else (iC_resize_l f i (sA a (upd (a 12) (Int32.toNatClampNeg k) (0 : Int32)) 12) n (k + (1 : Int32)))
noncomputable def aC_resize_l : Nat → (Nat → Int32) → (Nat → Nat → Int32) → Int32 → Int32 → Nat → Nat → Int32
  | 0, _, a, _, _ => a
  | f + 1, i, a, n, k => if (256 : Int32) ≤ k then a else (aC_resize_l f i (sA a (upd (a 12) (Int32.toNatClampNeg k) (0 : Int32)) 12) n (k + (1 : Int32)))
set_option maxHeartbeats 4000000 in
set_option maxRecDepth 100000 in
theorem tC_resize_l (tl : List am_Cl) : ∀ (f : Nat) (i : Nat → Int32) (a : Nat → Nat → Int32) (n k : Int32), ((256 : Int32).toInt - Int32.toInt k).toNat < f → 0 ≤ k.toInt → am_T sC_resize (some (.int (rC_resize_l f i a n k))) (wX (iC_resize_l f i a n k) (aC_resize_l f i a n k) tl) 15 [.ref 15, .int n, .int k] [] (wX i a tl) 0 0 := by
  intro f
  induction f with
  | zero => intro i a n k hm; exact absurd hm (Nat.not_lt_zero _)
  | succ f ih =>
    intro i a n k hm hk
    refine am_wu_T gdC_resize [15] 400 ?_
    refine am_split (fun h1 => ?_) (fun h1 => ?_)
    · skip
      exact am_ri (S := sC_resize) (by simp only [rC_resize_l, if_pos h1]; try rfl) (by simp only [iC_resize_l, aC_resize_l, if_pos h1]; try rfl) rfl rfl
    · skip
      refine And.intro (by exact vp_nn (M := 256) hk (by assumption) (by decide)) ?_
      exact am_Tc (am_Tw (ih i (sA a (upd (a 12) (Int32.toNatClampNeg k) (0 : Int32)) 12) n (k + (1 : Int32)) (ms_up (by assumption) hm) (nn_up hk (by assumption))) ⟨Or.inr rfl, Or.inr rfl, Or.inr rfl, trivial⟩) (by simp only [rC_resize_l, if_neg h1]) (by simp only [iC_resize_l, aC_resize_l, if_neg h1])
theorem zoC_resize_l : ∀ (f : Nat) (i : Nat → Int32) (a : Nat → Nat → Int32) (n k : Int32), rC_resize_l f i a n k = 0 ∨ rC_resize_l f i a n k = 1 := by
  intro f
  induction f with
  | zero => intro i a n k; exact Or.inl rfl
  | succ f ih =>
    intro i a n k
    simp only [rC_resize_l]
    repeat' (first | with_reducible refine zo_ite ?_ ?_ | with_reducible exact ih .. | with_reducible exact Or.inl rfl | with_reducible exact Or.inr rfl)
noncomputable def rC_resize (i : Nat → Int32) (a : Nat → Nat → Int32) (p : Int32) : Int32 := if (rX_within p (0 : Int32) (256 : Int32)) = (0 : Int32) then (0 : Int32) else (rC_resize_l (((256 : Int32).toInt - Int32.toInt p).toNat + 1) i a p p)
noncomputable def iC_resize (i : Nat → Int32) (a : Nat → Nat → Int32) (p : Int32) : Nat → Int32 := if (rX_within p (0 : Int32) (256 : Int32)) = (0 : Int32) then i else (iC_resize_l (((256 : Int32).toInt - Int32.toInt p).toNat + 1) i a p p)
noncomputable def aC_resize (i : Nat → Int32) (a : Nat → Nat → Int32) (p : Int32) : Nat → Nat → Int32 := if (rX_within p (0 : Int32) (256 : Int32)) = (0 : Int32) then a else (aC_resize_l (((256 : Int32).toInt - Int32.toInt p).toNat + 1) i a p p)
set_option maxHeartbeats 4000000 in
set_option maxRecDepth 100000 in
theorem eC_resize (i : Nat → Int32) (a : Nat → Nat → Int32) (p : Int32) (tl : List am_Cl) : am_Ev sC_resize [.ref 15, .int p] (wX i a tl) (some (.int (rC_resize i a p))) (wX (iC_resize i a p) (aC_resize i a p) tl) := by
  refine am_Ev_of cwC_resize rfl rfl rfl (am_wt_T gdC_resize [15] 400 ?_)
  refine am_call (eX_within p (0 : Int32) (256 : Int32) _) ?_
  refine am_split (fun h1 => ?_) (fun h1 => ?_)
  · skip
    exact am_ri (S := sC_resize) (by unfold rC_resize; simp only [if_pos h1]; try rfl) (by unfold iC_resize aC_resize; simp only [if_pos h1]; try rfl) rfl rfl
  · skip
    exact am_Tc (am_Tw (tC_resize_l tl (((256 : Int32).toInt - Int32.toInt p).toNat + 1) i a p p (Nat.lt_add_one _) (wn0 (by assumption))) ⟨Or.inr rfl, Or.inr rfl, Or.inr rfl, trivial⟩) (by unfold rC_resize; simp only [if_neg h1]; try rfl) (by unfold iC_resize aC_resize; simp only [if_neg h1]; try rfl)
theorem zoC_resize (i : Nat → Int32) (a : Nat → Nat → Int32) (p : Int32) : rC_resize i a p = 0 ∨ rC_resize i a p = 1 := by
  unfold rC_resize
  repeat' (first | with_reducible refine zo_ite ?_ ?_ | with_reducible exact zoC_resize_l .. | with_reducible exact Or.inl rfl | with_reducible exact Or.inr rfl)
noncomputable def rP_targetsExist_l : Nat → (Nat → Int32) → (Nat → Nat → Int32) → Int32 → Int32
  | 0, _, _, _ => 0
  | f + 1, i, a, n => if (i 1) ≤ n then (1 : Int32) else if (rP_targetOf i a n) ≤ (i 1) then (rP_targetsExist_l f i a (n + (1 : Int32))) else (0 : Int32)
set_option maxHeartbeats 4000000 in
set_option maxRecDepth 100000 in
theorem tP_targetsExist_l (tl : List am_Cl) : ∀ (f : Nat) (i : Nat → Int32) (a : Nat → Nat → Int32) (n : Int32), (Int32.toInt (i 1) - Int32.toInt n).toNat < f → am_T sP_targetsExist (some (.int (rP_targetsExist_l f i a n))) (wX i a tl) 2 [.ref 1, .int n] [] (wX i a tl) 0 0 := by
  intro f
  induction f with
  | zero => intro i a n hm; exact absurd hm (Nat.not_lt_zero _)
  | succ f ih =>
    intro i a n hm
    refine am_wu_T gdP_targetsExist [2] 400 ?_
    refine am_split (fun h1 => ?_) (fun h1 => ?_)
    · skip
      exact am_ri (S := sP_targetsExist) (by simp only [rP_targetsExist_l, if_pos h1]; try rfl) rfl rfl rfl
    · skip
      refine am_call (eP_targetOf i a n tl) ?_
      refine am_split (fun h2 => ?_) (fun h2 => ?_)
      · skip
        exact am_Tc (am_Tw (ih i a (n + (1 : Int32)) (ms_up (by assumption) hm)) ⟨Or.inr rfl, Or.inr rfl, trivial⟩) (by simp only [rP_targetsExist_l, if_neg h1, if_pos h2]) rfl
      · skip
        exact am_ri (S := sP_targetsExist) (by simp only [rP_targetsExist_l, if_neg h1, if_neg h2]; try rfl) rfl rfl rfl
theorem zoP_targetsExist_l : ∀ (f : Nat) (i : Nat → Int32) (a : Nat → Nat → Int32) (n : Int32), rP_targetsExist_l f i a n = 0 ∨ rP_targetsExist_l f i a n = 1 := by
  intro f
  induction f with
  | zero => intro i a n; exact Or.inl rfl
  | succ f ih =>
    intro i a n
    simp only [rP_targetsExist_l]
    repeat' (first | with_reducible refine zo_ite ?_ ?_ | with_reducible exact ih .. | with_reducible exact Or.inl rfl | with_reducible exact Or.inr rfl)
noncomputable def rP_targetsExist (i : Nat → Int32) (a : Nat → Nat → Int32) : Int32 := (rP_targetsExist_l ((Int32.toInt (i 1) - Int32.toInt (0 : Int32)).toNat + 1) i a (0 : Int32))
set_option maxHeartbeats 4000000 in
set_option maxRecDepth 100000 in
theorem eP_targetsExist (i : Nat → Int32) (a : Nat → Nat → Int32) (tl : List am_Cl) : am_Ev sP_targetsExist [.ref 1] (wX i a tl) (some (.int (rP_targetsExist i a ))) (wX i a tl) := by
  refine am_Ev_of cwP_targetsExist rfl rfl rfl (am_wt_T gdP_targetsExist [2] 400 ?_)
  exact am_Tc (am_Tw (tP_targetsExist_l tl ((Int32.toInt (i 1) - Int32.toInt (0 : Int32)).toNat + 1) i a (0 : Int32) (Nat.lt_add_one _) ) ⟨Or.inr rfl, Or.inr rfl, trivial⟩) (by unfold rP_targetsExist; rfl) rfl
theorem zoP_targetsExist (i : Nat → Int32) (a : Nat → Nat → Int32) : rP_targetsExist i a  = 0 ∨ rP_targetsExist i a  = 1 := by
  unfold rP_targetsExist
  repeat' (first | with_reducible refine zo_ite ?_ ?_ | with_reducible exact zoP_targetsExist_l .. | with_reducible exact Or.inl rfl | with_reducible exact Or.inr rfl)
noncomputable def rP_isAddressTaken_l : Nat → (Nat → Int32) → (Nat → Nat → Int32) → Int32 → Int32 → Int32
  | 0, _, _, _, _ => 0
  | f + 1, i, a, t, n => if (i 1) ≤ n then (0 : Int32) else if (rP_kindAt_w i a n) = (16 : Int32) then if (rP_secondAt_w i a n) = t then (1 : Int32) else (rP_isAddressTaken_l f i a t (n + (1 : Int32))) else (rP_isAddressTaken_l f i a t (n + (1 : Int32)))
set_option maxHeartbeats 4000000 in
set_option maxRecDepth 100000 in
theorem tP_isAddressTaken_l (tl : List am_Cl) : ∀ (f : Nat) (i : Nat → Int32) (a : Nat → Nat → Int32) (t n : Int32), (Int32.toInt (i 1) - Int32.toInt n).toNat < f → am_T sP_isAddressTaken (some (.int (rP_isAddressTaken_l f i a t n))) (wX i a tl) 2 [.ref 1, .int t, .int n] [] (wX i a tl) 0 0 := by
  intro f
  induction f with
  | zero => intro i a t n hm; exact absurd hm (Nat.not_lt_zero _)
  | succ f ih =>
    intro i a t n hm
    refine am_wu_T gdP_isAddressTaken [2] 400 ?_
    refine am_split (fun h1 => ?_) (fun h1 => ?_)
    · skip
      exact am_ri (S := sP_isAddressTaken) (by simp only [rP_isAddressTaken_l, if_pos h1]; try rfl) rfl rfl rfl
    · skip
      refine am_call (eP_kindAt_w i a n tl) ?_
      refine am_split (fun h2 => ?_) (fun h2 => ?_)
      · skip
        refine am_call (eP_secondAt_w i a n tl) ?_
        refine am_split (fun h3 => ?_) (fun h3 => ?_)
        · skip
          exact am_ri (S := sP_isAddressTaken) (by simp only [rP_isAddressTaken_l, if_neg h1, if_pos h2, if_pos h3]; try rfl) rfl rfl rfl
        · skip
          exact am_Tc (am_Tw (ih i a t (n + (1 : Int32)) (ms_up (by assumption) hm)) ⟨Or.inr rfl, Or.inr rfl, Or.inr rfl, trivial⟩) (by simp only [rP_isAddressTaken_l, if_neg h1, if_pos h2, if_neg h3]) rfl
      · skip
        exact am_Tc (am_Tw (ih i a t (n + (1 : Int32)) (ms_up (by assumption) hm)) ⟨Or.inr rfl, Or.inr rfl, Or.inr rfl, trivial⟩) (by simp only [rP_isAddressTaken_l, if_neg h1, if_neg h2]) rfl
theorem zoP_isAddressTaken_l : ∀ (f : Nat) (i : Nat → Int32) (a : Nat → Nat → Int32) (t n : Int32), rP_isAddressTaken_l f i a t n = 0 ∨ rP_isAddressTaken_l f i a t n = 1 := by
  intro f
  induction f with
  | zero => intro i a t n; exact Or.inl rfl
  | succ f ih =>
    intro i a t n
    simp only [rP_isAddressTaken_l]
    repeat' (first | with_reducible refine zo_ite ?_ ?_ | with_reducible exact ih .. | with_reducible exact Or.inl rfl | with_reducible exact Or.inr rfl)
noncomputable def rP_isAddressTaken (i : Nat → Int32) (a : Nat → Nat → Int32) (p : Int32) : Int32 := (rP_isAddressTaken_l ((Int32.toInt (i 1) - Int32.toInt (0 : Int32)).toNat + 1) i a p (0 : Int32))
set_option maxHeartbeats 4000000 in
set_option maxRecDepth 100000 in
theorem eP_isAddressTaken (i : Nat → Int32) (a : Nat → Nat → Int32) (p : Int32) (tl : List am_Cl) : am_Ev sP_isAddressTaken [.ref 1, .int p] (wX i a tl) (some (.int (rP_isAddressTaken i a p))) (wX i a tl) := by
  refine am_Ev_of cwP_isAddressTaken rfl rfl rfl (am_wt_T gdP_isAddressTaken [2] 400 ?_)
  exact am_Tc (am_Tw (tP_isAddressTaken_l tl ((Int32.toInt (i 1) - Int32.toInt (0 : Int32)).toNat + 1) i a p (0 : Int32) (Nat.lt_add_one _) ) ⟨Or.inr rfl, Or.inr rfl, Or.inr rfl, trivial⟩) (by unfold rP_isAddressTaken; rfl) rfl
theorem zoP_isAddressTaken (i : Nat → Int32) (a : Nat → Nat → Int32) (p : Int32) : rP_isAddressTaken i a p = 0 ∨ rP_isAddressTaken i a p = 1 := by
  unfold rP_isAddressTaken
  repeat' (first | with_reducible refine zo_ite ?_ ?_ | with_reducible exact zoP_isAddressTaken_l .. | with_reducible exact Or.inl rfl | with_reducible exact Or.inr rfl)
noncomputable def rP_bundleTargetAt_l : Nat → (Nat → Int32) → (Nat → Nat → Int32) → Int32 → Int32 → Int32
  | 0, _, _, _, _ => 0
  | f + 1, i, a, t, n => if (i 3) < n then (-1 : Int32) else if (rP_addressOf_b i a n) = t then n else (rP_bundleTargetAt_l f i a t (n + (1 : Int32)))
set_option maxHeartbeats 4000000 in
set_option maxRecDepth 100000 in
theorem tP_bundleTargetAt_l (tl : List am_Cl) : ∀ (f : Nat) (i : Nat → Int32) (a : Nat → Nat → Int32) (t n : Int32), (Int32.toInt (i 3) + 1 - Int32.toInt n).toNat < f → (i 3).toInt ≤ 1000 → am_T sP_bundleTargetAt (some (.int (rP_bundleTargetAt_l f i a t n))) (wX i a tl) 11 [.ref 8, .int t, .int n] [] (wX i a tl) 0 0 := by
  intro f
  induction f with
  | zero => intro i a t n hm; exact absurd hm (Nat.not_lt_zero _)
  | succ f ih =>
    intro i a t n hm hc
    refine am_wu_T gdP_bundleTargetAt [11] 400 ?_
    refine am_split (fun h1 => ?_) (fun h1 => ?_)
    · skip
      exact am_ri (S := sP_bundleTargetAt) (by simp only [rP_bundleTargetAt_l, if_pos h1]; try rfl) rfl rfl rfl
    · skip
      refine am_call (eP_addressOf_b i a n tl) ?_
      refine am_split (fun h2 => ?_) (fun h2 => ?_)
      · skip
        exact am_ri (S := sP_bundleTargetAt) (by simp only [rP_bundleTargetAt_l, if_neg h1, if_pos h2]; try rfl) rfl rfl rfl
      · skip
        exact am_Tc (am_Tw (ih i a t (n + (1 : Int32)) (ms_ule (by assumption) hc hm) hc) ⟨Or.inr rfl, Or.inr rfl, Or.inr rfl, trivial⟩) (by simp only [rP_bundleTargetAt_l, if_neg h1, if_neg h2]) rfl
noncomputable def rP_bundleTargetAt (i : Nat → Int32) (a : Nat → Nat → Int32) (p : Int32) : Int32 := if (p - p / (16 : Int32) * (16 : Int32)) = (0 : Int32) then (rP_bundleTargetAt_l ((Int32.toInt (i 3) + 1 - Int32.toInt (0 : Int32)).toNat + 1) i a p (0 : Int32)) else (-1 : Int32)
set_option maxHeartbeats 4000000 in
set_option maxRecDepth 100000 in
theorem eP_bundleTargetAt (i : Nat → Int32) (a : Nat → Nat → Int32) (p : Int32) (tl : List am_Cl) (hc : (i 3).toInt ≤ 1000) : am_Ev sP_bundleTargetAt [.ref 8, .int p] (wX i a tl) (some (.int (rP_bundleTargetAt i a p))) (wX i a tl) := by
  refine am_Ev_of cwP_bundleTargetAt rfl rfl rfl (am_wt_T gdP_bundleTargetAt [11] 400 ?_)
  refine am_split (fun h1 => ?_) (fun h1 => ?_)
  · skip
    exact am_Tc (am_Tw (tP_bundleTargetAt_l tl ((Int32.toInt (i 3) + 1 - Int32.toInt (0 : Int32)).toNat + 1) i a p (0 : Int32) (Nat.lt_add_one _) hc) ⟨Or.inr rfl, Or.inr rfl, Or.inr rfl, trivial⟩) (by unfold rP_bundleTargetAt; simp only [if_pos h1]; try rfl) rfl
  · skip
    exact am_ri (S := sP_bundleTargetAt) (by unfold rP_bundleTargetAt; simp only [if_neg h1]; try rfl) rfl rfl rfl
noncomputable def rL_targetPlace (i : Nat → Int32) (a : Nat → Nat → Int32) (q r : Int32) : Int32 := if (rP_isAddressTaken i a q) = (0 : Int32) then r else (rL_nextWith (0 : Int32) r)
set_option maxHeartbeats 4000000 in
set_option maxRecDepth 100000 in
theorem eL_targetPlace (i : Nat → Int32) (a : Nat → Nat → Int32) (q r : Int32) (tl : List am_Cl) : am_Ev sL_targetPlace [.ref 1, .int q, .int r] (wX i a tl) (some (.int (rL_targetPlace i a q r))) (wX i a tl) := by
  refine am_Ev_of cwL_targetPlace rfl rfl rfl (am_wp_T gdL_targetPlace 400 ?_)
  refine am_call (eP_isAddressTaken i a q tl) ?_
  refine am_split (fun h1 => ?_) (fun h1 => ?_)
  · skip
    exact am_ri (S := sL_targetPlace) (by unfold rL_targetPlace; simp only [if_pos h1]; try rfl) rfl rfl rfl
  · skip
    refine am_call (eL_nextWith (0 : Int32) r _) ?_
    exact am_ri (S := sL_targetPlace) (by unfold rL_targetPlace; simp only [if_neg h1]; try rfl) rfl rfl rfl
noncomputable def rL_linePlace (i : Nat → Int32) (a : Nat → Nat → Int32) (q r : Int32) : Int32 := if (rL_endsBundle (rP_kindAt_w i a q) (rP_firstAt_w i a q)) = (0 : Int32) then if ((r - r / (16 : Int32) * (16 : Int32)) + (rL_bytesOf (rP_kindAt_w i a q))) ≤ (16 : Int32) then r else (rL_nextWith (0 : Int32) r) else (rL_nextWith ((16 : Int32) - (rL_bytesOf (rP_kindAt_w i a q))) r)
set_option maxHeartbeats 4000000 in
set_option maxRecDepth 100000 in
theorem eL_linePlace (i : Nat → Int32) (a : Nat → Nat → Int32) (q r : Int32) (tl : List am_Cl) : am_Ev sL_linePlace [.ref 1, .int q, .int r] (wX i a tl) (some (.int (rL_linePlace i a q r))) (wX i a tl) := by
  refine am_Ev_of cwL_linePlace rfl rfl rfl (am_wp_T gdL_linePlace 400 ?_)
  refine am_call (eP_kindAt_w i a q tl) ?_
  refine am_call (eL_bytesOf (rP_kindAt_w i a q) _) ?_
  refine am_call (eP_kindAt_w i a q tl) ?_
  refine am_call (eP_firstAt_w i a q tl) ?_
  refine am_call (eL_endsBundle (rP_kindAt_w i a q) (rP_firstAt_w i a q) _) ?_
  refine am_split (fun h1 => ?_) (fun h1 => ?_)
  · skip
    refine am_split (fun h2 => ?_) (fun h2 => ?_)
    · skip
      exact am_ri (S := sL_linePlace) (by unfold rL_linePlace; simp only [if_pos h1, if_pos h2]; try rfl) rfl rfl rfl
    · skip
      refine am_call (eL_nextWith (0 : Int32) r _) ?_
      exact am_ri (S := sL_linePlace) (by unfold rL_linePlace; simp only [if_pos h1, if_neg h2]; try rfl) rfl rfl rfl
  · skip
    refine am_call (eL_nextWith ((16 : Int32) - (rL_bytesOf (rP_kindAt_w i a q))) r _) ?_
    exact am_ri (S := sL_linePlace) (by unfold rL_linePlace; simp only [if_neg h1]; try rfl) rfl rfl rfl
noncomputable def rL_place_l : Nat → (Nat → Int32) → (Nat → Nat → Int32) → Int32 → Int32 → Int32 → Int32
  | 0, _, _, _, _, _ => 0
  | f + 1, i, a, l, t, n => if l ≤ n then (((rL_targetPlace i a l t) - ((rL_targetPlace i a l t) - (rL_targetPlace i a l t) / (16 : Int32) * (16 : Int32))) + (16 : Int32)) else (rL_place_l f i (sA (sA a (upd (a 4) (Int32.toNatClampNeg n) (rL_targetPlace i a n t)) 4) (upd (a 5) (Int32.toNatClampNeg n) (rL_linePlace i (sA a (upd (a 4) (Int32.toNatClampNeg n) (rL_targetPlace i a n t)) 4) n (rL_targetPlace i a n t))) 5) l ((rL_linePlace i (sA a (upd (a 4) (Int32.toNatClampNeg n) (rL_targetPlace i a n t)) 4) n (rL_targetPlace i a n t)) + (rL_bytesOf (rP_kindAt_w i (sA (sA a (upd (a 4) (Int32.toNatClampNeg n) (rL_targetPlace i a n t)) 4) (upd (a 5) (Int32.toNatClampNeg n) (rL_linePlace i (sA a (upd (a 4) (Int32.toNatClampNeg n) (rL_targetPlace i a n t)) 4) n (rL_targetPlace i a n t))) 5) n))) (n + (1 : Int32)))
noncomputable def iL_place_l : Nat → (Nat → Int32) → (Nat → Nat → Int32) → Int32 → Int32 → Int32 → Nat → Int32
  | 0, i, _, _, _, _ => i
  | f + 1, i, a, l, t, n => if l ≤ n then (sI i (((rL_targetPlace i a l t) - ((rL_targetPlace i a l t) - (rL_targetPlace i a l t) / (16 : Int32) * (16 : Int32))) + (16 : Int32)) 2) else (iL_place_l f i (sA (sA a (upd (a 4) (Int32.toNatClampNeg n) (rL_targetPlace i a n t)) 4) (upd (a 5) (Int32.toNatClampNeg n) (rL_linePlace i (sA a (upd (a 4) (Int32.toNatClampNeg n) (rL_targetPlace i a n t)) 4) n (rL_targetPlace i a n t))) 5) l ((rL_linePlace i (sA a (upd (a 4) (Int32.toNatClampNeg n) (rL_targetPlace i a n t)) 4) n (rL_targetPlace i a n t)) + (rL_bytesOf (rP_kindAt_w i (sA (sA a (upd (a 4) (Int32.toNatClampNeg n) (rL_targetPlace i a n t)) 4) (upd (a 5) (Int32.toNatClampNeg n) (rL_linePlace i (sA a (upd (a 4) (Int32.toNatClampNeg n) (rL_targetPlace i a n t)) 4) n (rL_targetPlace i a n t))) 5) n))) (n + (1 : Int32)))
noncomputable def aL_place_l : Nat → (Nat → Int32) → (Nat → Nat → Int32) → Int32 → Int32 → Int32 → Nat → Nat → Int32
  | 0, _, a, _, _, _ => a
  | f + 1, i, a, l, t, n => if l ≤ n then (sA a (upd (a 4) (Int32.toNatClampNeg l) (rL_targetPlace i a l t)) 4) else (aL_place_l f i (sA (sA a (upd (a 4) (Int32.toNatClampNeg n) (rL_targetPlace i a n t)) 4) (upd (a 5) (Int32.toNatClampNeg n) (rL_linePlace i (sA a (upd (a 4) (Int32.toNatClampNeg n) (rL_targetPlace i a n t)) 4) n (rL_targetPlace i a n t))) 5) l ((rL_linePlace i (sA a (upd (a 4) (Int32.toNatClampNeg n) (rL_targetPlace i a n t)) 4) n (rL_targetPlace i a n t)) + (rL_bytesOf (rP_kindAt_w i (sA (sA a (upd (a 4) (Int32.toNatClampNeg n) (rL_targetPlace i a n t)) 4) (upd (a 5) (Int32.toNatClampNeg n) (rL_linePlace i (sA a (upd (a 4) (Int32.toNatClampNeg n) (rL_targetPlace i a n t)) 4) n (rL_targetPlace i a n t))) 5) n))) (n + (1 : Int32)))
set_option maxHeartbeats 4000000 in
set_option maxRecDepth 100000 in
theorem tL_place_l (tl : List am_Cl) : ∀ (f : Nat) (i : Nat → Int32) (a : Nat → Nat → Int32) (l t n : Int32), (Int32.toInt l - Int32.toInt n).toNat < f → 0 ≤ n.toInt ∧ 0 ≤ l.toInt ∧ l.toInt ≤ 20 → am_T sL_place (some (.int (rL_place_l f i a l t n))) (wX (iL_place_l f i a l t n) (aL_place_l f i a l t n) tl) 15 [.ref 1, .int l, .int t, .int n] [] (wX i a tl) 0 0 := by
  intro f
  induction f with
  | zero => intro i a l t n hm; exact absurd hm (Nat.not_lt_zero _)
  | succ f ih =>
    intro i a l t n hm hp
    refine am_wu_T gdL_place [15] 400 ?_
    refine am_split (fun h1 => ?_) (fun h1 => ?_)
    · skip
      refine am_call (eL_targetPlace i a l t tl) ?_
      refine And.intro (by first | exact vp_nn hp.1 (by assumption) (by omega) | (rw [vp_in_iff]; omega)) ?_
      exact am_ri (S := sL_place) (by simp only [rL_place_l, if_pos h1]; try rfl) (by simp only [iL_place_l, aL_place_l, if_pos h1]; try rfl) rfl rfl
    · skip
      refine am_call (eL_targetPlace i a n t tl) ?_
      refine And.intro (by first | exact vp_nn hp.1 (by assumption) (by omega) | (rw [vp_in_iff]; omega)) ?_
      refine am_call (eL_linePlace i (sA a (upd (a 4) (Int32.toNatClampNeg n) (rL_targetPlace i a n t)) 4) n (rL_targetPlace i a n t) tl) ?_
      refine And.intro (by first | exact vp_nn hp.1 (by assumption) (by omega) | (rw [vp_in_iff]; omega)) ?_
      refine am_call (eP_kindAt_w i (sA (sA a (upd (a 4) (Int32.toNatClampNeg n) (rL_targetPlace i a n t)) 4) (upd (a 5) (Int32.toNatClampNeg n) (rL_linePlace i (sA a (upd (a 4) (Int32.toNatClampNeg n) (rL_targetPlace i a n t)) 4) n (rL_targetPlace i a n t))) 5) n tl) ?_
      refine am_call (eL_bytesOf (rP_kindAt_w i (sA (sA a (upd (a 4) (Int32.toNatClampNeg n) (rL_targetPlace i a n t)) 4) (upd (a 5) (Int32.toNatClampNeg n) (rL_linePlace i (sA a (upd (a 4) (Int32.toNatClampNeg n) (rL_targetPlace i a n t)) 4) n (rL_targetPlace i a n t))) 5) n) _) ?_
      exact am_Tc (am_Tw (ih i (sA (sA a (upd (a 4) (Int32.toNatClampNeg n) (rL_targetPlace i a n t)) 4) (upd (a 5) (Int32.toNatClampNeg n) (rL_linePlace i (sA a (upd (a 4) (Int32.toNatClampNeg n) (rL_targetPlace i a n t)) 4) n (rL_targetPlace i a n t))) 5) l ((rL_linePlace i (sA a (upd (a 4) (Int32.toNatClampNeg n) (rL_targetPlace i a n t)) 4) n (rL_targetPlace i a n t)) + (rL_bytesOf (rP_kindAt_w i (sA (sA a (upd (a 4) (Int32.toNatClampNeg n) (rL_targetPlace i a n t)) 4) (upd (a 5) (Int32.toNatClampNeg n) (rL_linePlace i (sA a (upd (a 4) (Int32.toNatClampNeg n) (rL_targetPlace i a n t)) 4) n (rL_targetPlace i a n t))) 5) n))) (n + (1 : Int32)) (ms_up (by assumption) hm) ⟨nn_up hp.1 (by assumption), hp.2.1, hp.2.2⟩) ⟨Or.inr rfl, Or.inr rfl, Or.inr rfl, Or.inr rfl, trivial⟩) (by simp only [rL_place_l, if_neg h1]) (by simp only [iL_place_l, aL_place_l, if_neg h1])
noncomputable def rL_place (i : Nat → Int32) (a : Nat → Nat → Int32) : Int32 := (rL_place_l ((Int32.toInt (if (20 : Int32) < (i 1) then (20 : Int32) else (i 1)) - Int32.toInt (0 : Int32)).toNat + 1) i a (if (20 : Int32) < (i 1) then (20 : Int32) else (i 1)) (48 : Int32) (0 : Int32))
noncomputable def iL_place (i : Nat → Int32) (a : Nat → Nat → Int32) : Nat → Int32 := (iL_place_l ((Int32.toInt (if (20 : Int32) < (i 1) then (20 : Int32) else (i 1)) - Int32.toInt (0 : Int32)).toNat + 1) i a (if (20 : Int32) < (i 1) then (20 : Int32) else (i 1)) (48 : Int32) (0 : Int32))
noncomputable def aL_place (i : Nat → Int32) (a : Nat → Nat → Int32) : Nat → Nat → Int32 := (aL_place_l ((Int32.toInt (if (20 : Int32) < (i 1) then (20 : Int32) else (i 1)) - Int32.toInt (0 : Int32)).toNat + 1) i a (if (20 : Int32) < (i 1) then (20 : Int32) else (i 1)) (48 : Int32) (0 : Int32))
set_option maxHeartbeats 4000000 in
set_option maxRecDepth 100000 in
theorem eL_place (i : Nat → Int32) (a : Nat → Nat → Int32) (tl : List am_Cl) (hc : 0 ≤ (i 1).toInt) : am_Ev sL_place [.ref 1] (wX i a tl) (some (.int (rL_place i a ))) (wX (iL_place i a ) (aL_place i a ) tl) := by
  refine am_Ev_of cwL_place rfl rfl rfl (am_wt_T gdL_place [15] 400 ?_)
  exact am_Tc (am_Tw (tL_place_l tl ((Int32.toInt (if (20 : Int32) < (i 1) then (20 : Int32) else (i 1)) - Int32.toInt (0 : Int32)).toNat + 1) i a (if (20 : Int32) < (i 1) then (20 : Int32) else (i 1)) (48 : Int32) (0 : Int32) (Nat.lt_add_one _) ⟨by decide, min_nn hc, min_le⟩) ⟨Or.inr rfl, Or.inr rfl, Or.inr rfl, Or.inr rfl, trivial⟩) (by unfold rL_place; rfl) (by unfold iL_place aL_place; rfl)
end
section
/-! walks by program: the rewriter, copying, building -/
theorem am_callg {S : am_Sg} {as : List Value} {ab : List am_Cl} {v : Option Value} {i' : Nat → Int32} {a' : Nat → Nat → Int32} {tl : List am_Cl} {K : Option Value → List am_Cl → Prop} (h : am_Ev S as ab v (wX i' a' tl)) (k : ∀ I A, I = i' → A = a' → K v (wX I A tl)) : ∃ (v : Option Value) (ab1 : List am_Cl), am_Ev S as ab v ab1 ∧ K v ab1 := ⟨v, _, h, k _ _ rfl rfl⟩
theorem am_callz {S : am_Sg} {as : List Value} {ab : List am_Cl} {v : Option Value} {i j' : Nat → Int32} {a c' : Nat → Nat → Int32} {K : Option Value → List am_Cl → Prop} (h : am_Ev S as ab v (wX i a (wZ j' c'))) (k : ∀ J C, J = j' → C = c' → K v (wX i a (wZ J C))) : ∃ (v : Option Value) (ab1 : List am_Cl), am_Ev S as ab v ab1 ∧ K v ab1 := ⟨v, _, h, k _ _ rfl rfl⟩
theorem am_w2 {i1 i2 : Nat → Int32} {a1 a2 : Nat → Nat → Int32} {tl w : List am_Cl} (e1 : i1 = i2) (e2 : a1 = a2) (h : wX i2 a2 tl = w) : wX i1 a1 tl = w := by rw [e1, e2]; exact h
theorem am_w2z {i j1 i2 : Nat → Int32} {a c1 a2 : Nat → Nat → Int32} {w : List am_Cl} (e1 : j1 = i2) (e2 : c1 = a2) (h : wX i a (wZ i2 a2) = w) : wX i a (wZ j1 c1) = w := by rw [e1, e2]; exact h
theorem sI_ne {i : Nat → Int32} {v : Int32} {k q : Nat} (h : Nat.beq q k = false) : sI i v k q = i q := by unfold sI; rw [h]
theorem sA_ne {a : Nat → Nat → Int32} {v : Nat → Int32} {k q : Nat} (h : Nat.beq q k = false) : sA a v k q = a q := by unfold sA; rw [h]
theorem sI_eq {i : Nat → Int32} {v : Int32} {k : Nat} : sI i v k k = v := by unfold sI; rw [Nat.beq_refl]
theorem sA_eq {a : Nat → Nat → Int32} {v : Nat → Int32} {k : Nat} : sA a v k k = v := by unfold sA; rw [Nat.beq_refl]
noncomputable def iR_write_l : Nat → (Nat → Int32) → (Nat → Nat → Int32) → Int32 → Int32 → Int32 → Nat → Int32
  | 0, i, _, _, _, _ => i
  | f + 1, i, a, b, s, n => if s ≤ n then (sI i ((i 6) + s) 6) else (iR_write_l f i (aC_put i a ((i 6) + n) ((Int32.toUInt32 b >>> (Int32.toUInt32 ((8 : Int32) * n) &&& Int32.toUInt32 31)).toInt32 &&& (255 : Int32))) b s (n + (1 : Int32)))
noncomputable def aR_write_l : Nat → (Nat → Int32) → (Nat → Nat → Int32) → Int32 → Int32 → Int32 → Nat → Nat → Int32
  | 0, _, a, _, _, _ => a
  | f + 1, i, a, b, s, n => if s ≤ n then a else (aR_write_l f i (aC_put i a ((i 6) + n) ((Int32.toUInt32 b >>> (Int32.toUInt32 ((8 : Int32) * n) &&& Int32.toUInt32 31)).toInt32 &&& (255 : Int32))) b s (n + (1 : Int32)))
set_option maxHeartbeats 4000000 in
set_option maxRecDepth 100000 in
theorem tR_write_l (tl : List am_Cl) : ∀ (f : Nat) (i : Nat → Int32) (a : Nat → Nat → Int32) (b s n : Int32), (Int32.toInt s - Int32.toInt n).toNat < f → am_T sR_write none (wX (iR_write_l f i a b s n) (aR_write_l f i a b s n) tl) 20 [.ref 17, .retAddr 0, .retAddr 0, .retAddr 0, .retAddr 0, .int b, .int s, .int n] [] (wX i a tl) 0 0 := by
  intro f
  induction f with
  | zero => intro i a b s n hm; exact absurd hm (Nat.not_lt_zero _)
  | succ f ih =>
    intro i a b s n hm
    refine am_wu_T gdR_write [20] 400 ?_
    refine am_split (fun h1 => ?_) (fun h1 => ?_)
    · skip
      exact am_rv (S := sR_write) (by simp only [iR_write_l, aR_write_l, if_pos h1]; try rfl) rfl
    · skip
      refine am_call (eC_put i a ((i 6) + n) ((Int32.toUInt32 b >>> (Int32.toUInt32 ((8 : Int32) * n) &&& Int32.toUInt32 31)).toInt32 &&& (255 : Int32)) tl) ?_
      exact am_Tc (am_Tw (ih i (aC_put i a ((i 6) + n) ((Int32.toUInt32 b >>> (Int32.toUInt32 ((8 : Int32) * n) &&& Int32.toUInt32 31)).toInt32 &&& (255 : Int32))) b s (n + (1 : Int32)) (ms_up (by assumption) hm)) ⟨Or.inr rfl, Or.inl rfl, Or.inl rfl, Or.inl rfl, Or.inl rfl, Or.inr rfl, Or.inr rfl, Or.inr rfl, trivial⟩) rfl (by simp only [iR_write_l, aR_write_l, if_neg h1])
noncomputable def iR_write (i : Nat → Int32) (a : Nat → Nat → Int32) (p q r s : Int32) : Nat → Int32 := (iR_write_l ((Int32.toInt (rF_sizeOf (rF_pack p q r s)) - Int32.toInt (0 : Int32)).toNat + 1) i a (rF_pack p q r s) (rF_sizeOf (rF_pack p q r s)) (0 : Int32))
noncomputable def aR_write (i : Nat → Int32) (a : Nat → Nat → Int32) (p q r s : Int32) : Nat → Nat → Int32 := (aR_write_l ((Int32.toInt (rF_sizeOf (rF_pack p q r s)) - Int32.toInt (0 : Int32)).toNat + 1) i a (rF_pack p q r s) (rF_sizeOf (rF_pack p q r s)) (0 : Int32))
set_option maxHeartbeats 4000000 in
set_option maxRecDepth 100000 in
theorem eR_write (i : Nat → Int32) (a : Nat → Nat → Int32) (p q r s : Int32) (tl : List am_Cl) : am_Ev sR_write [.ref 17, .int p, .int q, .int r, .int s] (wX i a tl) none (wX (iR_write i a p q r s) (aR_write i a p q r s) tl) := by
  refine am_Ev_of cwR_write rfl rfl rfl (am_wt_T gdR_write [20] 400 ?_)
  refine am_call (eF_pack p q r s _) ?_
  refine am_call (eF_sizeOf (rF_pack p q r s) _) ?_
  exact am_Tc (am_Tw (tR_write_l tl ((Int32.toInt (rF_sizeOf (rF_pack p q r s)) - Int32.toInt (0 : Int32)).toNat + 1) i a (rF_pack p q r s) (rF_sizeOf (rF_pack p q r s)) (0 : Int32) (Nat.lt_add_one _) ) ⟨Or.inr rfl, Or.inl rfl, Or.inl rfl, Or.inl rfl, Or.inl rfl, Or.inr rfl, Or.inr rfl, Or.inr rfl, trivial⟩) rfl (by unfold iR_write aR_write; rfl)
theorem frR_write_l {q : Nat} (h : Nat.beq q 6 = false) : ∀ (f : Nat) (i : Nat → Int32) (a : Nat → Nat → Int32) (b s n : Int32), iR_write_l f i a b s n q = i q := by
  intro f
  induction f with
  | zero => intro i a b s n; rfl
  | succ f ih =>
    intro i a b s n
    simp only [iR_write_l]
    split
    · exact sI_ne h
    · exact ih ..
theorem frR_write {q : Nat} (h : Nat.beq q 6 = false) (i : Nat → Int32) (a : Nat → Nat → Int32) (k x y z : Int32) : iR_write i a k x y z q = i q := by unfold iR_write; exact frR_write_l h ..
noncomputable def iR_pad_l : Nat → (Nat → Int32) → (Nat → Nat → Int32) → Int32 → Nat → Int32
  | 0, i, _, _ => i
  | f + 1, i, a, n => if n ≤ (0 : Int32) then i else (iR_pad_l f (iR_write i a (4 : Int32) (0 : Int32) (0 : Int32) (0 : Int32)) (aR_write i a (4 : Int32) (0 : Int32) (0 : Int32) (0 : Int32)) (n + (-1 : Int32)))
noncomputable def aR_pad_l : Nat → (Nat → Int32) → (Nat → Nat → Int32) → Int32 → Nat → Nat → Int32
  | 0, _, a, _ => a
  | f + 1, i, a, n => if n ≤ (0 : Int32) then a else (aR_pad_l f (iR_write i a (4 : Int32) (0 : Int32) (0 : Int32) (0 : Int32)) (aR_write i a (4 : Int32) (0 : Int32) (0 : Int32) (0 : Int32)) (n + (-1 : Int32)))
set_option maxHeartbeats 4000000 in
set_option maxRecDepth 100000 in
theorem tR_pad_l (tl : List am_Cl) : ∀ (f : Nat) (i : Nat → Int32) (a : Nat → Nat → Int32) (n : Int32), (Int32.toInt n).toNat < f → am_T sR_pad none (wX (iR_pad_l f i a n) (aR_pad_l f i a n) tl) 26 [.ref 17, .retAddr 0, .retAddr 0, .int n] [] (wX i a tl) 0 0 := by
  intro f
  induction f with
  | zero => intro i a n hm; exact absurd hm (Nat.not_lt_zero _)
  | succ f ih =>
    intro i a n hm
    refine am_wu_T gdR_pad [26] 400 ?_
    refine am_split (fun h1 => ?_) (fun h1 => ?_)
    · skip
      exact am_rv (S := sR_pad) (by simp only [iR_pad_l, aR_pad_l, if_pos h1]; try rfl) rfl
    · skip
      refine am_call (eR_write i a (4 : Int32) (0 : Int32) (0 : Int32) (0 : Int32) tl) ?_
      exact am_Tc (am_Tw (ih (iR_write i a (4 : Int32) (0 : Int32) (0 : Int32) (0 : Int32)) (aR_write i a (4 : Int32) (0 : Int32) (0 : Int32) (0 : Int32)) (n + (-1 : Int32)) (ms_dn (by assumption) hm)) ⟨Or.inr rfl, Or.inl rfl, Or.inl rfl, Or.inr rfl, trivial⟩) rfl (by simp only [iR_pad_l, aR_pad_l, if_neg h1])
noncomputable def iR_pad (i : Nat → Int32) (a : Nat → Nat → Int32) (p : Int32) : Nat → Int32 := if ((p - (i 6)) - (p - (i 6)) / (4 : Int32) * (4 : Int32)) = (0 : Int32) then (iR_pad_l ((Int32.toInt ((p - (i 6)) / (4 : Int32))).toNat + 1) i a ((p - (i 6)) / (4 : Int32))) else (iR_pad_l ((Int32.toInt ((p - (i 6)) / (4 : Int32))).toNat + 1) (iR_write i a (13 : Int32) (0 : Int32) (0 : Int32) (0 : Int32)) (aR_write i a (13 : Int32) (0 : Int32) (0 : Int32) (0 : Int32)) ((p - (i 6)) / (4 : Int32)))
noncomputable def aR_pad (i : Nat → Int32) (a : Nat → Nat → Int32) (p : Int32) : Nat → Nat → Int32 := if ((p - (i 6)) - (p - (i 6)) / (4 : Int32) * (4 : Int32)) = (0 : Int32) then (aR_pad_l ((Int32.toInt ((p - (i 6)) / (4 : Int32))).toNat + 1) i a ((p - (i 6)) / (4 : Int32))) else (aR_pad_l ((Int32.toInt ((p - (i 6)) / (4 : Int32))).toNat + 1) (iR_write i a (13 : Int32) (0 : Int32) (0 : Int32) (0 : Int32)) (aR_write i a (13 : Int32) (0 : Int32) (0 : Int32) (0 : Int32)) ((p - (i 6)) / (4 : Int32)))
set_option maxHeartbeats 4000000 in
set_option maxRecDepth 100000 in
theorem eR_pad (i : Nat → Int32) (a : Nat → Nat → Int32) (p : Int32) (tl : List am_Cl) : am_Ev sR_pad [.ref 17, .int p] (wX i a tl) none (wX (iR_pad i a p) (aR_pad i a p) tl) := by
  refine am_Ev_of cwR_pad rfl rfl rfl (am_wt_T gdR_pad [26] 400 ?_)
  refine am_split (fun h1 => ?_) (fun h1 => ?_)
  · skip
    exact am_Tc (am_Tw (tR_pad_l tl ((Int32.toInt ((p - (i 6)) / (4 : Int32))).toNat + 1) i a ((p - (i 6)) / (4 : Int32)) (Nat.lt_add_one _) ) ⟨Or.inr rfl, Or.inl rfl, Or.inl rfl, Or.inr rfl, trivial⟩) rfl (by unfold iR_pad aR_pad; simp only [if_pos h1]; try rfl)
  · skip
    refine am_call (eR_write i a (13 : Int32) (0 : Int32) (0 : Int32) (0 : Int32) tl) ?_
    exact am_Tc (am_Tw (tR_pad_l tl ((Int32.toInt ((p - (i 6)) / (4 : Int32))).toNat + 1) (iR_write i a (13 : Int32) (0 : Int32) (0 : Int32) (0 : Int32)) (aR_write i a (13 : Int32) (0 : Int32) (0 : Int32) (0 : Int32)) ((p - (i 6)) / (4 : Int32)) (Nat.lt_add_one _) ) ⟨Or.inr rfl, Or.inl rfl, Or.inl rfl, Or.inr rfl, trivial⟩) rfl (by unfold iR_pad aR_pad; simp only [if_neg h1]; try rfl)
noncomputable def iR_writeLine (i : Nat → Int32) (a : Nat → Nat → Int32) (p q r s : Int32) : Nat → Int32 := if p = (6 : Int32) then (iR_write (iR_write (iR_write (iR_write i a (4 : Int32) (31 : Int32) r s) (aR_write i a (4 : Int32) (31 : Int32) r s) (2 : Int32) (31 : Int32) (31 : Int32) (29 : Int32)) (aR_write (iR_write i a (4 : Int32) (31 : Int32) r s) (aR_write i a (4 : Int32) (31 : Int32) r s) (2 : Int32) (31 : Int32) (31 : Int32) (29 : Int32)) (3 : Int32) (31 : Int32) (31 : Int32) (28 : Int32)) (aR_write (iR_write (iR_write i a (4 : Int32) (31 : Int32) r s) (aR_write i a (4 : Int32) (31 : Int32) r s) (2 : Int32) (31 : Int32) (31 : Int32) (29 : Int32)) (aR_write (iR_write i a (4 : Int32) (31 : Int32) r s) (aR_write i a (4 : Int32) (31 : Int32) r s) (2 : Int32) (31 : Int32) (31 : Int32) (29 : Int32)) (3 : Int32) (31 : Int32) (31 : Int32) (28 : Int32)) p q (31 : Int32) (0 : Int32)) else if p = (7 : Int32) then (iR_write (iR_write (iR_write (iR_write i a (4 : Int32) (31 : Int32) r s) (aR_write i a (4 : Int32) (31 : Int32) r s) (2 : Int32) (31 : Int32) (31 : Int32) (29 : Int32)) (aR_write (iR_write i a (4 : Int32) (31 : Int32) r s) (aR_write i a (4 : Int32) (31 : Int32) r s) (2 : Int32) (31 : Int32) (31 : Int32) (29 : Int32)) (3 : Int32) (31 : Int32) (31 : Int32) (28 : Int32)) (aR_write (iR_write (iR_write i a (4 : Int32) (31 : Int32) r s) (aR_write i a (4 : Int32) (31 : Int32) r s) (2 : Int32) (31 : Int32) (31 : Int32) (29 : Int32)) (aR_write (iR_write i a (4 : Int32) (31 : Int32) r s) (aR_write i a (4 : Int32) (31 : Int32) r s) (2 : Int32) (31 : Int32) (31 : Int32) (29 : Int32)) (3 : Int32) (31 : Int32) (31 : Int32) (28 : Int32)) p q (31 : Int32) (0 : Int32)) else if p = (8 : Int32) then (iR_write i a p q r ((rP_addressOf_b i a s) - (i 6))) else if p = (9 : Int32) then (iR_write i a p q r ((rP_addressOf_b i a s) - (i 6))) else if p = (10 : Int32) then (iR_write i a p q r ((rP_addressOf_b i a s) - (i 6))) else if p = (11 : Int32) then (iR_write i a (11 : Int32) q ((rP_addressOf_b i a r) - (i 6)) (0 : Int32)) else if p = (12 : Int32) then (iR_write (iR_write i a (2 : Int32) (31 : Int32) r (27 : Int32)) (aR_write i a (2 : Int32) (31 : Int32) r (27 : Int32)) (12 : Int32) q (31 : Int32) (0 : Int32)) else if p = (13 : Int32) then (iR_write i a p q r s) else if p = (14 : Int32) then (iR_write i a p q r s) else if p = (15 : Int32) then (iR_write i a (11 : Int32) (1 : Int32) ((q * (16 : Int32)) - (i 6)) (0 : Int32)) else if p = (16 : Int32) then (iR_write i a (4 : Int32) q (0 : Int32) (rP_addressOf_b i a r)) else (iR_write i a p q r s)
noncomputable def aR_writeLine (i : Nat → Int32) (a : Nat → Nat → Int32) (p q r s : Int32) : Nat → Nat → Int32 := if p = (6 : Int32) then (aR_write (iR_write (iR_write (iR_write i a (4 : Int32) (31 : Int32) r s) (aR_write i a (4 : Int32) (31 : Int32) r s) (2 : Int32) (31 : Int32) (31 : Int32) (29 : Int32)) (aR_write (iR_write i a (4 : Int32) (31 : Int32) r s) (aR_write i a (4 : Int32) (31 : Int32) r s) (2 : Int32) (31 : Int32) (31 : Int32) (29 : Int32)) (3 : Int32) (31 : Int32) (31 : Int32) (28 : Int32)) (aR_write (iR_write (iR_write i a (4 : Int32) (31 : Int32) r s) (aR_write i a (4 : Int32) (31 : Int32) r s) (2 : Int32) (31 : Int32) (31 : Int32) (29 : Int32)) (aR_write (iR_write i a (4 : Int32) (31 : Int32) r s) (aR_write i a (4 : Int32) (31 : Int32) r s) (2 : Int32) (31 : Int32) (31 : Int32) (29 : Int32)) (3 : Int32) (31 : Int32) (31 : Int32) (28 : Int32)) p q (31 : Int32) (0 : Int32)) else if p = (7 : Int32) then (aR_write (iR_write (iR_write (iR_write i a (4 : Int32) (31 : Int32) r s) (aR_write i a (4 : Int32) (31 : Int32) r s) (2 : Int32) (31 : Int32) (31 : Int32) (29 : Int32)) (aR_write (iR_write i a (4 : Int32) (31 : Int32) r s) (aR_write i a (4 : Int32) (31 : Int32) r s) (2 : Int32) (31 : Int32) (31 : Int32) (29 : Int32)) (3 : Int32) (31 : Int32) (31 : Int32) (28 : Int32)) (aR_write (iR_write (iR_write i a (4 : Int32) (31 : Int32) r s) (aR_write i a (4 : Int32) (31 : Int32) r s) (2 : Int32) (31 : Int32) (31 : Int32) (29 : Int32)) (aR_write (iR_write i a (4 : Int32) (31 : Int32) r s) (aR_write i a (4 : Int32) (31 : Int32) r s) (2 : Int32) (31 : Int32) (31 : Int32) (29 : Int32)) (3 : Int32) (31 : Int32) (31 : Int32) (28 : Int32)) p q (31 : Int32) (0 : Int32)) else if p = (8 : Int32) then (aR_write i a p q r ((rP_addressOf_b i a s) - (i 6))) else if p = (9 : Int32) then (aR_write i a p q r ((rP_addressOf_b i a s) - (i 6))) else if p = (10 : Int32) then (aR_write i a p q r ((rP_addressOf_b i a s) - (i 6))) else if p = (11 : Int32) then (aR_write i a (11 : Int32) q ((rP_addressOf_b i a r) - (i 6)) (0 : Int32)) else if p = (12 : Int32) then (aR_write (iR_write i a (2 : Int32) (31 : Int32) r (27 : Int32)) (aR_write i a (2 : Int32) (31 : Int32) r (27 : Int32)) (12 : Int32) q (31 : Int32) (0 : Int32)) else if p = (13 : Int32) then (aR_write i a p q r s) else if p = (14 : Int32) then (aR_write i a p q r s) else if p = (15 : Int32) then (aR_write i a (11 : Int32) (1 : Int32) ((q * (16 : Int32)) - (i 6)) (0 : Int32)) else if p = (16 : Int32) then (aR_write i a (4 : Int32) q (0 : Int32) (rP_addressOf_b i a r)) else (aR_write i a p q r s)
set_option maxHeartbeats 4000000 in
set_option maxRecDepth 100000 in
theorem eR_writeLine (i : Nat → Int32) (a : Nat → Nat → Int32) (p q r s : Int32) (tl : List am_Cl) : am_Ev sR_writeLine [.ref 17, .int p, .int q, .int r, .int s] (wX i a tl) none (wX (iR_writeLine i a p q r s) (aR_writeLine i a p q r s) tl) := by
  refine am_Ev_of cwR_writeLine rfl rfl rfl (am_wp_T gdR_writeLine 400 ?_)
  refine am_split (fun h1 => ?_) (fun h1 => ?_)
  · skip
    refine am_call (eR_write i a (4 : Int32) (31 : Int32) r s tl) ?_
    refine am_call (eR_write (iR_write i a (4 : Int32) (31 : Int32) r s) (aR_write i a (4 : Int32) (31 : Int32) r s) (2 : Int32) (31 : Int32) (31 : Int32) (29 : Int32) tl) ?_
    refine am_call (eR_write (iR_write (iR_write i a (4 : Int32) (31 : Int32) r s) (aR_write i a (4 : Int32) (31 : Int32) r s) (2 : Int32) (31 : Int32) (31 : Int32) (29 : Int32)) (aR_write (iR_write i a (4 : Int32) (31 : Int32) r s) (aR_write i a (4 : Int32) (31 : Int32) r s) (2 : Int32) (31 : Int32) (31 : Int32) (29 : Int32)) (3 : Int32) (31 : Int32) (31 : Int32) (28 : Int32) tl) ?_
    refine am_call (eR_write (iR_write (iR_write (iR_write i a (4 : Int32) (31 : Int32) r s) (aR_write i a (4 : Int32) (31 : Int32) r s) (2 : Int32) (31 : Int32) (31 : Int32) (29 : Int32)) (aR_write (iR_write i a (4 : Int32) (31 : Int32) r s) (aR_write i a (4 : Int32) (31 : Int32) r s) (2 : Int32) (31 : Int32) (31 : Int32) (29 : Int32)) (3 : Int32) (31 : Int32) (31 : Int32) (28 : Int32)) (aR_write (iR_write (iR_write i a (4 : Int32) (31 : Int32) r s) (aR_write i a (4 : Int32) (31 : Int32) r s) (2 : Int32) (31 : Int32) (31 : Int32) (29 : Int32)) (aR_write (iR_write i a (4 : Int32) (31 : Int32) r s) (aR_write i a (4 : Int32) (31 : Int32) r s) (2 : Int32) (31 : Int32) (31 : Int32) (29 : Int32)) (3 : Int32) (31 : Int32) (31 : Int32) (28 : Int32)) p q (31 : Int32) (0 : Int32) tl) ?_
    exact am_rv (S := sR_writeLine) (by unfold iR_writeLine aR_writeLine; simp only [if_pos h1]; try rfl) rfl
  · skip
    refine am_split (fun h2 => ?_) (fun h2 => ?_)
    · skip
      refine am_call (eR_write i a (4 : Int32) (31 : Int32) r s tl) ?_
      refine am_call (eR_write (iR_write i a (4 : Int32) (31 : Int32) r s) (aR_write i a (4 : Int32) (31 : Int32) r s) (2 : Int32) (31 : Int32) (31 : Int32) (29 : Int32) tl) ?_
      refine am_call (eR_write (iR_write (iR_write i a (4 : Int32) (31 : Int32) r s) (aR_write i a (4 : Int32) (31 : Int32) r s) (2 : Int32) (31 : Int32) (31 : Int32) (29 : Int32)) (aR_write (iR_write i a (4 : Int32) (31 : Int32) r s) (aR_write i a (4 : Int32) (31 : Int32) r s) (2 : Int32) (31 : Int32) (31 : Int32) (29 : Int32)) (3 : Int32) (31 : Int32) (31 : Int32) (28 : Int32) tl) ?_
      refine am_call (eR_write (iR_write (iR_write (iR_write i a (4 : Int32) (31 : Int32) r s) (aR_write i a (4 : Int32) (31 : Int32) r s) (2 : Int32) (31 : Int32) (31 : Int32) (29 : Int32)) (aR_write (iR_write i a (4 : Int32) (31 : Int32) r s) (aR_write i a (4 : Int32) (31 : Int32) r s) (2 : Int32) (31 : Int32) (31 : Int32) (29 : Int32)) (3 : Int32) (31 : Int32) (31 : Int32) (28 : Int32)) (aR_write (iR_write (iR_write i a (4 : Int32) (31 : Int32) r s) (aR_write i a (4 : Int32) (31 : Int32) r s) (2 : Int32) (31 : Int32) (31 : Int32) (29 : Int32)) (aR_write (iR_write i a (4 : Int32) (31 : Int32) r s) (aR_write i a (4 : Int32) (31 : Int32) r s) (2 : Int32) (31 : Int32) (31 : Int32) (29 : Int32)) (3 : Int32) (31 : Int32) (31 : Int32) (28 : Int32)) p q (31 : Int32) (0 : Int32) tl) ?_
      exact am_rv (S := sR_writeLine) (by unfold iR_writeLine aR_writeLine; simp only [if_neg h1, if_pos h2]; try rfl) rfl
    · skip
      refine am_split (fun h3 => ?_) (fun h3 => ?_)
      · skip
        refine am_call (eP_addressOf_b i a s tl) ?_
        refine am_call (eR_write i a p q r ((rP_addressOf_b i a s) - (i 6)) tl) ?_
        exact am_rv (S := sR_writeLine) (by unfold iR_writeLine aR_writeLine; simp only [if_neg h1, if_neg h2, if_pos h3]; try rfl) rfl
      · skip
        refine am_split (fun h4 => ?_) (fun h4 => ?_)
        · skip
          refine am_call (eP_addressOf_b i a s tl) ?_
          refine am_call (eR_write i a p q r ((rP_addressOf_b i a s) - (i 6)) tl) ?_
          exact am_rv (S := sR_writeLine) (by unfold iR_writeLine aR_writeLine; simp only [if_neg h1, if_neg h2, if_neg h3, if_pos h4]; try rfl) rfl
        · skip
          refine am_split (fun h5 => ?_) (fun h5 => ?_)
          · skip
            refine am_call (eP_addressOf_b i a s tl) ?_
            refine am_call (eR_write i a p q r ((rP_addressOf_b i a s) - (i 6)) tl) ?_
            exact am_rv (S := sR_writeLine) (by unfold iR_writeLine aR_writeLine; simp only [if_neg h1, if_neg h2, if_neg h3, if_neg h4, if_pos h5]; try rfl) rfl
          · skip
            refine am_split (fun h6 => ?_) (fun h6 => ?_)
            · skip
              refine am_call (eP_addressOf_b i a r tl) ?_
              refine am_call (eR_write i a (11 : Int32) q ((rP_addressOf_b i a r) - (i 6)) (0 : Int32) tl) ?_
              exact am_rv (S := sR_writeLine) (by unfold iR_writeLine aR_writeLine; simp only [if_neg h1, if_neg h2, if_neg h3, if_neg h4, if_neg h5, if_pos h6]; try rfl) rfl
            · skip
              refine am_split (fun h7 => ?_) (fun h7 => ?_)
              · skip
                refine am_call (eR_write i a (2 : Int32) (31 : Int32) r (27 : Int32) tl) ?_
                refine am_call (eR_write (iR_write i a (2 : Int32) (31 : Int32) r (27 : Int32)) (aR_write i a (2 : Int32) (31 : Int32) r (27 : Int32)) (12 : Int32) q (31 : Int32) (0 : Int32) tl) ?_
                exact am_rv (S := sR_writeLine) (by unfold iR_writeLine aR_writeLine; simp only [if_neg h1, if_neg h2, if_neg h3, if_neg h4, if_neg h5, if_neg h6, if_pos h7]; try rfl) rfl
              · skip
                refine am_split (fun h8 => ?_) (fun h8 => ?_)
                · skip
                  refine am_call (eR_write i a p q r s tl) ?_
                  exact am_rv (S := sR_writeLine) (by unfold iR_writeLine aR_writeLine; simp only [if_neg h1, if_neg h2, if_neg h3, if_neg h4, if_neg h5, if_neg h6, if_neg h7, if_pos h8]; try rfl) rfl
                · skip
                  refine am_split (fun h9 => ?_) (fun h9 => ?_)
                  · skip
                    refine am_call (eR_write i a p q r s tl) ?_
                    exact am_rv (S := sR_writeLine) (by unfold iR_writeLine aR_writeLine; simp only [if_neg h1, if_neg h2, if_neg h3, if_neg h4, if_neg h5, if_neg h6, if_neg h7, if_neg h8, if_pos h9]; try rfl) rfl
                  · skip
                    refine am_split (fun h10 => ?_) (fun h10 => ?_)
                    · skip
                      refine am_call (eR_write i a (11 : Int32) (1 : Int32) ((q * (16 : Int32)) - (i 6)) (0 : Int32) tl) ?_
                      exact am_rv (S := sR_writeLine) (by unfold iR_writeLine aR_writeLine; simp only [if_neg h1, if_neg h2, if_neg h3, if_neg h4, if_neg h5, if_neg h6, if_neg h7, if_neg h8, if_neg h9, if_pos h10]; try rfl) rfl
                    · skip
                      refine am_split (fun h11 => ?_) (fun h11 => ?_)
                      · skip
                        refine am_call (eP_addressOf_b i a r tl) ?_
                        refine am_call (eR_write i a (4 : Int32) q (0 : Int32) (rP_addressOf_b i a r) tl) ?_
                        exact am_rv (S := sR_writeLine) (by unfold iR_writeLine aR_writeLine; simp only [if_neg h1, if_neg h2, if_neg h3, if_neg h4, if_neg h5, if_neg h6, if_neg h7, if_neg h8, if_neg h9, if_neg h10, if_pos h11]; try rfl) rfl
                      · skip
                        refine am_call (eR_write i a p q r s tl) ?_
                        exact am_rv (S := sR_writeLine) (by unfold iR_writeLine aR_writeLine; simp only [if_neg h1, if_neg h2, if_neg h3, if_neg h4, if_neg h5, if_neg h6, if_neg h7, if_neg h8, if_neg h9, if_neg h10, if_neg h11]; try rfl) rfl
theorem frR_pad_l {q : Nat} (h : Nat.beq q 6 = false) : ∀ (f : Nat) (i : Nat → Int32) (a : Nat → Nat → Int32) (n : Int32), iR_pad_l f i a n q = i q := by
  intro f
  induction f with
  | zero => intro i a n; rfl
  | succ f ih =>
    intro i a n
    simp only [iR_pad_l]
    split
    · rfl
    · rw [ih, frR_write h]
theorem frR_pad {q : Nat} (h : Nat.beq q 6 = false) (i : Nat → Int32) (a : Nat → Nat → Int32) (x : Int32) : iR_pad i a x q = i q := by
  unfold iR_pad
  split
  · exact frR_pad_l h ..
  · rw [frR_pad_l h, frR_write h]
theorem frR_writeLine {q : Nat} (h : Nat.beq q 6 = false) (i : Nat → Int32) (a : Nat → Nat → Int32) (k x y z : Int32) : iR_writeLine i a k x y z q = i q := by
  unfold iR_writeLine
  repeat' split
  all_goals simp only [frR_write h]
noncomputable def iR_writeAll_l : Nat → (Nat → Int32) → (Nat → Nat → Int32) → Int32 → Nat → Int32
  | 0, i, _, _ => i
  | f + 1, i, a, n => if (i 3) ≤ n then (iR_pad (iR_pad i a (rP_addressOf_b i a (i 3))) (aR_pad i a (rP_addressOf_b i a (i 3))) ((iR_pad i a (rP_addressOf_b i a (i 3))) 4)) else (iR_writeAll_l f (iR_writeLine (iR_pad (iR_pad i a (rP_addressOf_b i a n)) (aR_pad i a (rP_addressOf_b i a n)) (rP_startAt_b (iR_pad i a (rP_addressOf_b i a n)) (aR_pad i a (rP_addressOf_b i a n)) n)) (aR_pad (iR_pad i a (rP_addressOf_b i a n)) (aR_pad i a (rP_addressOf_b i a n)) (rP_startAt_b (iR_pad i a (rP_addressOf_b i a n)) (aR_pad i a (rP_addressOf_b i a n)) n)) (rP_kindAt_b (iR_pad (iR_pad i a (rP_addressOf_b i a n)) (aR_pad i a (rP_addressOf_b i a n)) (rP_startAt_b (iR_pad i a (rP_addressOf_b i a n)) (aR_pad i a (rP_addressOf_b i a n)) n)) (aR_pad (iR_pad i a (rP_addressOf_b i a n)) (aR_pad i a (rP_addressOf_b i a n)) (rP_startAt_b (iR_pad i a (rP_addressOf_b i a n)) (aR_pad i a (rP_addressOf_b i a n)) n)) n) (rP_firstAt_b (iR_pad (iR_pad i a (rP_addressOf_b i a n)) (aR_pad i a (rP_addressOf_b i a n)) (rP_startAt_b (iR_pad i a (rP_addressOf_b i a n)) (aR_pad i a (rP_addressOf_b i a n)) n)) (aR_pad (iR_pad i a (rP_addressOf_b i a n)) (aR_pad i a (rP_addressOf_b i a n)) (rP_startAt_b (iR_pad i a (rP_addressOf_b i a n)) (aR_pad i a (rP_addressOf_b i a n)) n)) n) (rP_secondAt_b (iR_pad (iR_pad i a (rP_addressOf_b i a n)) (aR_pad i a (rP_addressOf_b i a n)) (rP_startAt_b (iR_pad i a (rP_addressOf_b i a n)) (aR_pad i a (rP_addressOf_b i a n)) n)) (aR_pad (iR_pad i a (rP_addressOf_b i a n)) (aR_pad i a (rP_addressOf_b i a n)) (rP_startAt_b (iR_pad i a (rP_addressOf_b i a n)) (aR_pad i a (rP_addressOf_b i a n)) n)) n) (rP_thirdAt_b (iR_pad (iR_pad i a (rP_addressOf_b i a n)) (aR_pad i a (rP_addressOf_b i a n)) (rP_startAt_b (iR_pad i a (rP_addressOf_b i a n)) (aR_pad i a (rP_addressOf_b i a n)) n)) (aR_pad (iR_pad i a (rP_addressOf_b i a n)) (aR_pad i a (rP_addressOf_b i a n)) (rP_startAt_b (iR_pad i a (rP_addressOf_b i a n)) (aR_pad i a (rP_addressOf_b i a n)) n)) n)) (aR_writeLine (iR_pad (iR_pad i a (rP_addressOf_b i a n)) (aR_pad i a (rP_addressOf_b i a n)) (rP_startAt_b (iR_pad i a (rP_addressOf_b i a n)) (aR_pad i a (rP_addressOf_b i a n)) n)) (aR_pad (iR_pad i a (rP_addressOf_b i a n)) (aR_pad i a (rP_addressOf_b i a n)) (rP_startAt_b (iR_pad i a (rP_addressOf_b i a n)) (aR_pad i a (rP_addressOf_b i a n)) n)) (rP_kindAt_b (iR_pad (iR_pad i a (rP_addressOf_b i a n)) (aR_pad i a (rP_addressOf_b i a n)) (rP_startAt_b (iR_pad i a (rP_addressOf_b i a n)) (aR_pad i a (rP_addressOf_b i a n)) n)) (aR_pad (iR_pad i a (rP_addressOf_b i a n)) (aR_pad i a (rP_addressOf_b i a n)) (rP_startAt_b (iR_pad i a (rP_addressOf_b i a n)) (aR_pad i a (rP_addressOf_b i a n)) n)) n) (rP_firstAt_b (iR_pad (iR_pad i a (rP_addressOf_b i a n)) (aR_pad i a (rP_addressOf_b i a n)) (rP_startAt_b (iR_pad i a (rP_addressOf_b i a n)) (aR_pad i a (rP_addressOf_b i a n)) n)) (aR_pad (iR_pad i a (rP_addressOf_b i a n)) (aR_pad i a (rP_addressOf_b i a n)) (rP_startAt_b (iR_pad i a (rP_addressOf_b i a n)) (aR_pad i a (rP_addressOf_b i a n)) n)) n) (rP_secondAt_b (iR_pad (iR_pad i a (rP_addressOf_b i a n)) (aR_pad i a (rP_addressOf_b i a n)) (rP_startAt_b (iR_pad i a (rP_addressOf_b i a n)) (aR_pad i a (rP_addressOf_b i a n)) n)) (aR_pad (iR_pad i a (rP_addressOf_b i a n)) (aR_pad i a (rP_addressOf_b i a n)) (rP_startAt_b (iR_pad i a (rP_addressOf_b i a n)) (aR_pad i a (rP_addressOf_b i a n)) n)) n) (rP_thirdAt_b (iR_pad (iR_pad i a (rP_addressOf_b i a n)) (aR_pad i a (rP_addressOf_b i a n)) (rP_startAt_b (iR_pad i a (rP_addressOf_b i a n)) (aR_pad i a (rP_addressOf_b i a n)) n)) (aR_pad (iR_pad i a (rP_addressOf_b i a n)) (aR_pad i a (rP_addressOf_b i a n)) (rP_startAt_b (iR_pad i a (rP_addressOf_b i a n)) (aR_pad i a (rP_addressOf_b i a n)) n)) n)) (n + (1 : Int32)))
noncomputable def aR_writeAll_l : Nat → (Nat → Int32) → (Nat → Nat → Int32) → Int32 → Nat → Nat → Int32
  | 0, _, a, _ => a
  | f + 1, i, a, n => if (i 3) ≤ n then (aR_pad (iR_pad i a (rP_addressOf_b i a (i 3))) (aR_pad i a (rP_addressOf_b i a (i 3))) ((iR_pad i a (rP_addressOf_b i a (i 3))) 4)) else (aR_writeAll_l f (iR_writeLine (iR_pad (iR_pad i a (rP_addressOf_b i a n)) (aR_pad i a (rP_addressOf_b i a n)) (rP_startAt_b (iR_pad i a (rP_addressOf_b i a n)) (aR_pad i a (rP_addressOf_b i a n)) n)) (aR_pad (iR_pad i a (rP_addressOf_b i a n)) (aR_pad i a (rP_addressOf_b i a n)) (rP_startAt_b (iR_pad i a (rP_addressOf_b i a n)) (aR_pad i a (rP_addressOf_b i a n)) n)) (rP_kindAt_b (iR_pad (iR_pad i a (rP_addressOf_b i a n)) (aR_pad i a (rP_addressOf_b i a n)) (rP_startAt_b (iR_pad i a (rP_addressOf_b i a n)) (aR_pad i a (rP_addressOf_b i a n)) n)) (aR_pad (iR_pad i a (rP_addressOf_b i a n)) (aR_pad i a (rP_addressOf_b i a n)) (rP_startAt_b (iR_pad i a (rP_addressOf_b i a n)) (aR_pad i a (rP_addressOf_b i a n)) n)) n) (rP_firstAt_b (iR_pad (iR_pad i a (rP_addressOf_b i a n)) (aR_pad i a (rP_addressOf_b i a n)) (rP_startAt_b (iR_pad i a (rP_addressOf_b i a n)) (aR_pad i a (rP_addressOf_b i a n)) n)) (aR_pad (iR_pad i a (rP_addressOf_b i a n)) (aR_pad i a (rP_addressOf_b i a n)) (rP_startAt_b (iR_pad i a (rP_addressOf_b i a n)) (aR_pad i a (rP_addressOf_b i a n)) n)) n) (rP_secondAt_b (iR_pad (iR_pad i a (rP_addressOf_b i a n)) (aR_pad i a (rP_addressOf_b i a n)) (rP_startAt_b (iR_pad i a (rP_addressOf_b i a n)) (aR_pad i a (rP_addressOf_b i a n)) n)) (aR_pad (iR_pad i a (rP_addressOf_b i a n)) (aR_pad i a (rP_addressOf_b i a n)) (rP_startAt_b (iR_pad i a (rP_addressOf_b i a n)) (aR_pad i a (rP_addressOf_b i a n)) n)) n) (rP_thirdAt_b (iR_pad (iR_pad i a (rP_addressOf_b i a n)) (aR_pad i a (rP_addressOf_b i a n)) (rP_startAt_b (iR_pad i a (rP_addressOf_b i a n)) (aR_pad i a (rP_addressOf_b i a n)) n)) (aR_pad (iR_pad i a (rP_addressOf_b i a n)) (aR_pad i a (rP_addressOf_b i a n)) (rP_startAt_b (iR_pad i a (rP_addressOf_b i a n)) (aR_pad i a (rP_addressOf_b i a n)) n)) n)) (aR_writeLine (iR_pad (iR_pad i a (rP_addressOf_b i a n)) (aR_pad i a (rP_addressOf_b i a n)) (rP_startAt_b (iR_pad i a (rP_addressOf_b i a n)) (aR_pad i a (rP_addressOf_b i a n)) n)) (aR_pad (iR_pad i a (rP_addressOf_b i a n)) (aR_pad i a (rP_addressOf_b i a n)) (rP_startAt_b (iR_pad i a (rP_addressOf_b i a n)) (aR_pad i a (rP_addressOf_b i a n)) n)) (rP_kindAt_b (iR_pad (iR_pad i a (rP_addressOf_b i a n)) (aR_pad i a (rP_addressOf_b i a n)) (rP_startAt_b (iR_pad i a (rP_addressOf_b i a n)) (aR_pad i a (rP_addressOf_b i a n)) n)) (aR_pad (iR_pad i a (rP_addressOf_b i a n)) (aR_pad i a (rP_addressOf_b i a n)) (rP_startAt_b (iR_pad i a (rP_addressOf_b i a n)) (aR_pad i a (rP_addressOf_b i a n)) n)) n) (rP_firstAt_b (iR_pad (iR_pad i a (rP_addressOf_b i a n)) (aR_pad i a (rP_addressOf_b i a n)) (rP_startAt_b (iR_pad i a (rP_addressOf_b i a n)) (aR_pad i a (rP_addressOf_b i a n)) n)) (aR_pad (iR_pad i a (rP_addressOf_b i a n)) (aR_pad i a (rP_addressOf_b i a n)) (rP_startAt_b (iR_pad i a (rP_addressOf_b i a n)) (aR_pad i a (rP_addressOf_b i a n)) n)) n) (rP_secondAt_b (iR_pad (iR_pad i a (rP_addressOf_b i a n)) (aR_pad i a (rP_addressOf_b i a n)) (rP_startAt_b (iR_pad i a (rP_addressOf_b i a n)) (aR_pad i a (rP_addressOf_b i a n)) n)) (aR_pad (iR_pad i a (rP_addressOf_b i a n)) (aR_pad i a (rP_addressOf_b i a n)) (rP_startAt_b (iR_pad i a (rP_addressOf_b i a n)) (aR_pad i a (rP_addressOf_b i a n)) n)) n) (rP_thirdAt_b (iR_pad (iR_pad i a (rP_addressOf_b i a n)) (aR_pad i a (rP_addressOf_b i a n)) (rP_startAt_b (iR_pad i a (rP_addressOf_b i a n)) (aR_pad i a (rP_addressOf_b i a n)) n)) (aR_pad (iR_pad i a (rP_addressOf_b i a n)) (aR_pad i a (rP_addressOf_b i a n)) (rP_startAt_b (iR_pad i a (rP_addressOf_b i a n)) (aR_pad i a (rP_addressOf_b i a n)) n)) n)) (n + (1 : Int32)))
set_option maxHeartbeats 4000000 in
set_option maxRecDepth 100000 in
theorem tR_writeAll_l (tl : List am_Cl) : ∀ (f : Nat) (i : Nat → Int32) (a : Nat → Nat → Int32) (n : Int32), (Int32.toInt (i 3) - Int32.toInt n).toNat < f → am_T sR_writeAll none (wX (iR_writeAll_l f i a n) (aR_writeAll_l f i a n) tl) 32 [.ref 17, .int n] [] (wX i a tl) 0 0 := by
  intro f
  induction f with
  | zero => intro i a n hm; exact absurd hm (Nat.not_lt_zero _)
  | succ f ih =>
    intro i a n hm
    refine am_wu_T gdR_writeAll [32] 400 ?_
    refine am_split (fun h1 => ?_) (fun h1 => ?_)
    · skip
      refine am_call (eP_addressOf_b i a (i 3) tl) ?_
      refine am_callg (eR_pad i a (rP_addressOf_b i a (i 3)) tl) (fun I1 A1 hI1 hA1 => ?_)
      refine am_callg (eR_pad I1 A1 (I1 4) tl) (fun I2 A2 hI2 hA2 => ?_)
      exact am_rv (S := sR_writeAll) (am_w2 (i2 := I2) (a2 := A2) (by rw [iR_writeAll_l]; (try rw [← hI1]); (try rw [← hA1]); (try rw [← hI2]); (try rw [← hA2]); rw [if_pos h1]) (by rw [aR_writeAll_l]; (try rw [← hI1]); (try rw [← hA1]); (try rw [← hI2]); (try rw [← hA2]); rw [if_pos h1]) rfl) rfl
    · skip
      refine am_call (eP_addressOf_b i a n tl) ?_
      refine am_callg (eR_pad i a (rP_addressOf_b i a n) tl) (fun I3 A3 hI3 hA3 => ?_)
      refine am_call (eP_startAt_b I3 A3 n tl) ?_
      refine am_callg (eR_pad I3 A3 (rP_startAt_b I3 A3 n) tl) (fun I4 A4 hI4 hA4 => ?_)
      refine am_call (eP_kindAt_b I4 A4 n tl) ?_
      refine am_call (eP_firstAt_b I4 A4 n tl) ?_
      refine am_call (eP_secondAt_b I4 A4 n tl) ?_
      refine am_call (eP_thirdAt_b I4 A4 n tl) ?_
      refine am_callg (eR_writeLine I4 A4 (rP_kindAt_b I4 A4 n) (rP_firstAt_b I4 A4 n) (rP_secondAt_b I4 A4 n) (rP_thirdAt_b I4 A4 n) tl) (fun I5 A5 hI5 hA5 => ?_)
      exact am_Tc (am_Tw (ih I5 A5 (n + (1 : Int32)) (by rw [hI5, frR_writeLine rfl, hI4, frR_pad rfl, hI3, frR_pad rfl]; exact ms_up (by assumption) hm)) ⟨Or.inr rfl, Or.inr rfl, trivial⟩) rfl (am_w2 (by rw [iR_writeAll_l]; (try rw [← hI3]); (try rw [← hA3]); (try rw [← hI4]); (try rw [← hA4]); (try rw [← hI5]); (try rw [← hA5]); rw [if_neg h1]) (by rw [aR_writeAll_l]; (try rw [← hI3]); (try rw [← hA3]); (try rw [← hI4]); (try rw [← hA4]); (try rw [← hI5]); (try rw [← hA5]); rw [if_neg h1]) rfl)
end
section
noncomputable def iR_writeAll (i : Nat → Int32) (a : Nat → Nat → Int32) : Nat → Int32 := (iR_writeAll_l ((Int32.toInt ((sI (iC_resize (iC_resize i a (0 : Int32)) (aC_resize i a (0 : Int32)) ((iC_resize i a (0 : Int32)) 4)) (48 : Int32) 6) 3) - Int32.toInt (0 : Int32)).toNat + 1) (sI (iC_resize (iC_resize i a (0 : Int32)) (aC_resize i a (0 : Int32)) ((iC_resize i a (0 : Int32)) 4)) (48 : Int32) 6) (aC_resize (iC_resize i a (0 : Int32)) (aC_resize i a (0 : Int32)) ((iC_resize i a (0 : Int32)) 4)) (0 : Int32))
noncomputable def aR_writeAll (i : Nat → Int32) (a : Nat → Nat → Int32) : Nat → Nat → Int32 := (aR_writeAll_l ((Int32.toInt ((sI (iC_resize (iC_resize i a (0 : Int32)) (aC_resize i a (0 : Int32)) ((iC_resize i a (0 : Int32)) 4)) (48 : Int32) 6) 3) - Int32.toInt (0 : Int32)).toNat + 1) (sI (iC_resize (iC_resize i a (0 : Int32)) (aC_resize i a (0 : Int32)) ((iC_resize i a (0 : Int32)) 4)) (48 : Int32) 6) (aC_resize (iC_resize i a (0 : Int32)) (aC_resize i a (0 : Int32)) ((iC_resize i a (0 : Int32)) 4)) (0 : Int32))
set_option maxHeartbeats 4000000 in
set_option maxRecDepth 100000 in
theorem eR_writeAll (i : Nat → Int32) (a : Nat → Nat → Int32) (tl : List am_Cl) : am_Ev sR_writeAll [.ref 17] (wX i a tl) none (wX (iR_writeAll i a ) (aR_writeAll i a ) tl) := by
  refine am_Ev_of cwR_writeAll rfl rfl rfl (am_wt_T gdR_writeAll [32] 400 ?_)
  refine am_callg (eC_resize i a (0 : Int32) tl) (fun I1 A1 hI1 hA1 => ?_)
  refine am_callg (eC_resize I1 A1 (I1 4) tl) (fun I2 A2 hI2 hA2 => ?_)
  exact am_Tc (am_Tw (tR_writeAll_l tl ((Int32.toInt ((sI I2 (48 : Int32) 6) 3) - Int32.toInt (0 : Int32)).toNat + 1) (sI I2 (48 : Int32) 6) A2 (0 : Int32) (Nat.lt_add_one _) ) ⟨Or.inr rfl, Or.inr rfl, trivial⟩) rfl (am_w2 (by unfold iR_writeAll; (try rw [← hI1]); (try rw [← hA1]); (try rw [← hI2]); (try rw [← hA2]); first | done | rfl) (by unfold aR_writeAll; (try rw [← hI1]); (try rw [← hA1]); (try rw [← hI2]); (try rw [← hA2]); first | done | rfl) rfl)
noncomputable def iP_copyFrom (i : Nat → Int32) (a : Nat → Nat → Int32) : Nat → Int32 := (sI (sI i (i 1) 3) (i 2) 4)
noncomputable def aP_copyFrom (i : Nat → Int32) (a : Nat → Nat → Int32) : Nat → Nat → Int32 := (sA (sA (sA (sA (sA (sA a (va_cpy (a 0) (a 6) 0 0 20) 6) (va_cpy (a 1) (a 7) 0 0 20) 7) (va_cpy (a 2) (a 8) 0 0 20) 8) (va_cpy (a 3) (a 9) 0 0 20) 9) (va_cpy (a 4) (a 10) 0 0 21) 10) (va_cpy (a 5) (a 11) 0 0 20) 11)
set_option maxHeartbeats 4000000 in
set_option maxRecDepth 100000 in
theorem eP_copyFrom (i : Nat → Int32) (a : Nat → Nat → Int32) (tl : List am_Cl) : am_Ev sP_copyFrom [.ref 8, .ref 1] (wX i a tl) none (wX (iP_copyFrom i a ) (aP_copyFrom i a ) tl) := by
  refine am_Ev_of cwP_copyFrom rfl rfl rfl (am_wp_T gdP_copyFrom 400 ?_)
  exact am_rv (S := sP_copyFrom) rfl rfl
noncomputable def rX_length (i : Nat → Int32) (a : Nat → Nat → Int32) (p : Int32) : Int32 := (rC_resize i a p)
noncomputable def iX_length (i : Nat → Int32) (a : Nat → Nat → Int32) (p : Int32) : Nat → Int32 := (iC_resize i a p)
noncomputable def aX_length (i : Nat → Int32) (a : Nat → Nat → Int32) (p : Int32) : Nat → Nat → Int32 := (aC_resize i a p)
set_option maxHeartbeats 4000000 in
set_option maxRecDepth 100000 in
theorem eX_length (i : Nat → Int32) (a : Nat → Nat → Int32) (p : Int32) (tl : List am_Cl) : am_Ev sX_length [.ref 0, .int p] (wX i a tl) (some (.int (rX_length i a p))) (wX (iX_length i a p) (aX_length i a p) tl) := by
  refine am_Ev_of cwX_length rfl rfl rfl (am_wp_T gdX_length 400 ?_)
  refine am_call (eC_resize i a p tl) ?_
  exact am_ri (S := sX_length) rfl rfl rfl (am_nz (zoC_resize i a p))
theorem zoX_length (i : Nat → Int32) (a : Nat → Nat → Int32) (p : Int32) : rX_length i a p = 0 ∨ rX_length i a p = 1 := by
  unfold rX_length
  repeat' (first | with_reducible refine zo_ite ?_ ?_ | with_reducible exact zoC_resize .. | with_reducible exact Or.inl rfl | with_reducible exact Or.inr rfl)
end
section
noncomputable def rX_build (i : Nat → Int32) (a : Nat → Nat → Int32) : Int32 := if (rP_targetsExist i a ) = (0 : Int32) then (-1 : Int32) else if (rL_place i a ) ≤ (256 : Int32) then ((iR_writeAll (sI (iP_copyFrom (iL_place i a ) (aL_place i a ) ) (1 : Int32) 0) (aP_copyFrom (iL_place i a ) (aL_place i a ) ) ) 5) else (-2 : Int32)
noncomputable def iX_build (i : Nat → Int32) (a : Nat → Nat → Int32) : Nat → Int32 := if (rP_targetsExist i a ) = (0 : Int32) then i else if (rL_place i a ) ≤ (256 : Int32) then (iR_writeAll (sI (iP_copyFrom (iL_place i a ) (aL_place i a ) ) (1 : Int32) 0) (aP_copyFrom (iL_place i a ) (aL_place i a ) ) ) else (iL_place i a )
noncomputable def aX_build (i : Nat → Int32) (a : Nat → Nat → Int32) : Nat → Nat → Int32 := if (rP_targetsExist i a ) = (0 : Int32) then a else if (rL_place i a ) ≤ (256 : Int32) then (aR_writeAll (sI (iP_copyFrom (iL_place i a ) (aL_place i a ) ) (1 : Int32) 0) (aP_copyFrom (iL_place i a ) (aL_place i a ) ) ) else (aL_place i a )
set_option maxHeartbeats 4000000 in
set_option maxRecDepth 100000 in
theorem eX_build (i : Nat → Int32) (a : Nat → Nat → Int32) (tl : List am_Cl) (hc : 0 ≤ (i 1).toInt) : am_Ev sX_build [.ref 0] (wX i a tl) (some (.int (rX_build i a ))) (wX (iX_build i a ) (aX_build i a ) tl) := by
  refine am_Ev_of cwX_build rfl rfl rfl (am_wp_T gdX_build 400 ?_)
  refine am_call (eP_targetsExist i a  tl) ?_
  refine am_split (fun h1 => ?_) (fun h1 => ?_)
  · skip
    exact am_ri (x := (-1 : Int32)) (S := sX_build) (congrArg (fun x => some (Value.int x)) (by unfold rX_build; rw [if_pos h1])) (am_w2 (i2 := i) (a2 := a) (by unfold iX_build; rw [if_pos h1]) (by unfold aX_build; rw [if_pos h1]) rfl) rfl rfl
  · skip
    refine am_callg (eL_place i a  tl  (by assumption)) (fun I1 A1 hI1 hA1 => ?_)
    refine am_split (fun h2 => ?_) (fun h2 => ?_)
    · skip
      refine am_callg (eP_copyFrom I1 A1  tl) (fun I2 A2 hI2 hA2 => ?_)
      refine am_callg (eR_writeAll (sI I2 (1 : Int32) 0) A2  tl) (fun I3 A3 hI3 hA3 => ?_)
      exact am_ri (x := (I3 5)) (S := sX_build) (congrArg (fun x => some (Value.int x)) (by unfold rX_build; (try rw [← hI1]); (try rw [← hA1]); (try rw [← hI2]); (try rw [← hA2]); (try rw [← hI3]); (try rw [← hA3]); rw [if_neg h1, if_pos h2])) (am_w2 (i2 := I3) (a2 := A3) (by unfold iX_build; (try rw [← hI1]); (try rw [← hA1]); (try rw [← hI2]); (try rw [← hA2]); (try rw [← hI3]); (try rw [← hA3]); rw [if_neg h1, if_pos h2]) (by unfold aX_build; (try rw [← hI1]); (try rw [← hA1]); (try rw [← hI2]); (try rw [← hA2]); (try rw [← hI3]); (try rw [← hA3]); rw [if_neg h1, if_pos h2]) rfl) rfl rfl
    · skip
      exact am_ri (x := (-2 : Int32)) (S := sX_build) (congrArg (fun x => some (Value.int x)) (by unfold rX_build; (try rw [← hI1]); (try rw [← hA1]); rw [if_neg h1, if_neg h2])) (am_w2 (i2 := I1) (a2 := A1) (by unfold iX_build; (try rw [← hI1]); (try rw [← hA1]); rw [if_neg h1, if_neg h2]) (by unfold aX_build; (try rw [← hI1]); (try rw [← hA1]); rw [if_neg h1, if_neg h2]) rfl) rfl rfl
end
section
/-! walks by program: the checker, the runners -/
theorem am_callga {S : am_Sg} {as : List Value} {ab : List am_Cl} {v : Option Value} {i' : Nat → Int32} {a' : Nat → Nat → Int32} {tl : List am_Cl} {K : Option Value → List am_Cl → Prop} (h : am_Ev S as ab v (wX i' a' tl)) (k : ∀ A, A = a' → K v (wX i' A tl)) : ∃ (v : Option Value) (ab1 : List am_Cl), am_Ev S as ab v ab1 ∧ K v ab1 := ⟨v, _, h, k _ rfl⟩
theorem am_callgi {S : am_Sg} {as : List Value} {ab : List am_Cl} {v : Option Value} {i' : Nat → Int32} {a' : Nat → Nat → Int32} {tl : List am_Cl} {K : Option Value → List am_Cl → Prop} (h : am_Ev S as ab v (wX i' a' tl)) (k : ∀ I, I = i' → K v (wX I a' tl)) : ∃ (v : Option Value) (ab1 : List am_Cl), am_Ev S as ab v ab1 ∧ K v ab1 := ⟨v, _, h, k _ rfl⟩
theorem am_callza {S : am_Sg} {as : List Value} {ab : List am_Cl} {v : Option Value} {i j' : Nat → Int32} {a c' : Nat → Nat → Int32} {K : Option Value → List am_Cl → Prop} (h : am_Ev S as ab v (wX i a (wZ j' c'))) (k : ∀ C, C = c' → K v (wX i a (wZ j' C))) : ∃ (v : Option Value) (ab1 : List am_Cl), am_Ev S as ab v ab1 ∧ K v ab1 := ⟨v, _, h, k _ rfl⟩
theorem am_callzi {S : am_Sg} {as : List Value} {ab : List am_Cl} {v : Option Value} {i j' : Nat → Int32} {a c' : Nat → Nat → Int32} {K : Option Value → List am_Cl → Prop} (h : am_Ev S as ab v (wX i a (wZ j' c'))) (k : ∀ J, J = j' → K v (wX i a (wZ J c'))) : ∃ (v : Option Value) (ab1 : List am_Cl), am_Ev S as ab v ab1 ∧ K v ab1 := ⟨v, _, h, k _ rfl⟩
theorem ms_up2 {n M : Int32} {f : Nat} (h : ¬ M ≤ n) (hM : M.toInt ≤ 1000) (hm : (M.toInt - n.toInt).toNat < f + 1) : (M.toInt - (n + 2).toInt).toNat < f := by
  rw [le_i] at h
  have h2 := i32_lo n
  rw [add_i (x := n) (y := 2) (by rw [show (2 : Int32).toInt = 2 from rfl]; omega) (by rw [show (2 : Int32).toInt = 2 from rfl]; omega), show (2 : Int32).toInt = 2 from rfl]
  omega
theorem nn_up2 {n M : Int32} (h0 : 0 ≤ n.toInt) (h : ¬ M ≤ n) (hM : M.toInt ≤ 1000) : 0 ≤ (n + 2).toInt := by
  rw [le_i] at h
  rw [add_i (x := n) (y := 2) (by rw [show (2 : Int32).toInt = 2 from rfl]; omega) (by rw [show (2 : Int32).toInt = 2 from rfl]; omega), show (2 : Int32).toInt = 2 from rfl]
  omega
noncomputable def rK_firstBroken_l : Nat → (Nat → Int32) → (Nat → Nat → Int32) → Int32 → Int32 → Int32
  | 0, _, _, _, _ => 0
  | f + 1, i, a, x, n => if (i 5) ≤ n then (-1 : Int32) else if (256 : Int32) ≤ n then (-1 : Int32) else if n = x then if (rF_kindOf (rC_fetch i a n)) = (-1 : Int32) then n else if ((n - n / (16 : Int32) * (16 : Int32)) + (rF_sizeOf (rC_fetch i a n))) ≤ (16 : Int32) then (rK_firstBroken_l f i (sA a (upd (a 13) (Int32.toNatClampNeg n) (rC_fetch i a n)) 13) (n + (rF_sizeOf (rC_fetch i a n))) (n + (2 : Int32))) else n else (rK_firstBroken_l f i (sA a (upd (a 13) (Int32.toNatClampNeg n) (0 : Int32)) 13) x (n + (2 : Int32)))
noncomputable def aK_firstBroken_l : Nat → (Nat → Int32) → (Nat → Nat → Int32) → Int32 → Int32 → Nat → Nat → Int32
  | 0, _, a, _, _ => a
  | f + 1, i, a, x, n => if (i 5) ≤ n then a else if (256 : Int32) ≤ n then a else if n = x then if (rF_kindOf (rC_fetch i a n)) = (-1 : Int32) then (sA a (upd (a 13) (Int32.toNatClampNeg n) (rC_fetch i a n)) 13) else if ((n - n / (16 : Int32) * (16 : Int32)) + (rF_sizeOf (rC_fetch i a n))) ≤ (16 : Int32) then (aK_firstBroken_l f i (sA a (upd (a 13) (Int32.toNatClampNeg n) (rC_fetch i a n)) 13) (n + (rF_sizeOf (rC_fetch i a n))) (n + (2 : Int32))) else (sA a (upd (a 13) (Int32.toNatClampNeg n) (rC_fetch i a n)) 13) else (aK_firstBroken_l f i (sA a (upd (a 13) (Int32.toNatClampNeg n) (0 : Int32)) 13) x (n + (2 : Int32)))
set_option maxHeartbeats 4000000 in
set_option maxRecDepth 100000 in
theorem tK_firstBroken_l (tl : List am_Cl) : ∀ (f : Nat) (i : Nat → Int32) (a : Nat → Nat → Int32) (x n : Int32), ((256 : Int32).toInt - Int32.toInt n).toNat < f → 0 ≤ n.toInt → am_T sK_firstBroken (some (.int (rK_firstBroken_l f i a x n))) (wX i (aK_firstBroken_l f i a x n) tl) 6 [.ref 18, .int x, .int n, .retAddr 0] [] (wX i a tl) 0 0 := by
  intro f
  induction f with
  | zero => intro i a x n hm; exact absurd hm (Nat.not_lt_zero _)
  | succ f ih =>
    intro i a x n hm hk
    refine am_wu_T gdK_firstBroken [6] 400 ?_
    refine am_split (fun h1 => ?_) (fun h1 => ?_)
    · skip
      exact am_ri (S := sK_firstBroken) (by simp only [rK_firstBroken_l, if_pos h1]; try rfl) (by simp only [aK_firstBroken_l, if_pos h1]; try rfl) rfl rfl
    · skip
      refine am_split (fun h2 => ?_) (fun h2 => ?_)
      · skip
        exact am_ri (S := sK_firstBroken) (by simp only [rK_firstBroken_l, if_neg h1, if_pos h2]; try rfl) (by simp only [aK_firstBroken_l, if_neg h1, if_pos h2]; try rfl) rfl rfl
      · skip
        refine am_split (fun h3 => ?_) (fun h3 => ?_)
        · skip
          refine am_call (eC_fetch i a n tl) ?_
          refine And.intro (by exact vp_nn (M := 256) hk (by assumption) (by decide)) ?_
          refine am_split (fun _ => ?_) (fun hz => absurd h3 hz)
          refine am_call (eF_sizeOf (rC_fetch i a n) _) ?_
          refine am_call (eF_kindOf (rC_fetch i a n) _) ?_
          refine am_split (fun h4 => ?_) (fun h4 => ?_)
          · skip
            exact am_ri (S := sK_firstBroken) (by simp only [rK_firstBroken_l, if_neg h1, if_neg h2, if_pos h3, if_pos h4]; try rfl) (by simp only [aK_firstBroken_l, if_neg h1, if_neg h2, if_pos h3, if_pos h4]; try rfl) rfl rfl
          · skip
            refine am_call (eF_sizeOf (rC_fetch i a n) _) ?_
            refine am_split (fun h5 => ?_) (fun h5 => ?_)
            · skip
              exact am_Tc (am_Tw (ih i (sA a (upd (a 13) (Int32.toNatClampNeg n) (rC_fetch i a n)) 13) (n + (rF_sizeOf (rC_fetch i a n))) (n + (2 : Int32)) (ms_up2 (M := 256) (by assumption) (by decide) hm) (nn_up2 (M := 256) hk (by assumption) (by decide))) ⟨Or.inr rfl, Or.inr rfl, Or.inr rfl, Or.inl rfl, trivial⟩) (by simp only [rK_firstBroken_l, if_neg h1, if_neg h2, if_pos h3, if_neg h4, if_pos h5]) (by simp only [aK_firstBroken_l, if_neg h1, if_neg h2, if_pos h3, if_neg h4, if_pos h5])
            · skip
              exact am_ri (S := sK_firstBroken) (by simp only [rK_firstBroken_l, if_neg h1, if_neg h2, if_pos h3, if_neg h4, if_neg h5]; try rfl) (by simp only [aK_firstBroken_l, if_neg h1, if_neg h2, if_pos h3, if_neg h4, if_neg h5]; try rfl) rfl rfl
        · skip
          refine And.intro (by exact vp_nn (M := 256) hk (by assumption) (by decide)) ?_
          refine am_split (fun hz => absurd hz h3) (fun _ => ?_)
          exact am_Tc (am_Tw (ih i (sA a (upd (a 13) (Int32.toNatClampNeg n) (0 : Int32)) 13) x (n + (2 : Int32)) (ms_up2 (M := 256) (by assumption) (by decide) hm) (nn_up2 (M := 256) hk (by assumption) (by decide))) ⟨Or.inr rfl, Or.inr rfl, Or.inr rfl, Or.inl rfl, trivial⟩) (by simp only [rK_firstBroken_l, if_neg h1, if_neg h2, if_neg h3]) (by simp only [aK_firstBroken_l, if_neg h1, if_neg h2, if_neg h3])
noncomputable def rK_firstBroken (i : Nat → Int32) (a : Nat → Nat → Int32) : Int32 := (rK_firstBroken_l (((256 : Int32).toInt - Int32.toInt (48 : Int32)).toNat + 1) i a (48 : Int32) (48 : Int32))
noncomputable def aK_firstBroken (i : Nat → Int32) (a : Nat → Nat → Int32) : Nat → Nat → Int32 := (aK_firstBroken_l (((256 : Int32).toInt - Int32.toInt (48 : Int32)).toNat + 1) i a (48 : Int32) (48 : Int32))
set_option maxHeartbeats 4000000 in
set_option maxRecDepth 100000 in
theorem eK_firstBroken (i : Nat → Int32) (a : Nat → Nat → Int32) (tl : List am_Cl) : am_Ev sK_firstBroken [.ref 18] (wX i a tl) (some (.int (rK_firstBroken i a ))) (wX i (aK_firstBroken i a ) tl) := by
  refine am_Ev_of cwK_firstBroken rfl rfl rfl (am_wt_T gdK_firstBroken [6] 400 ?_)
  exact am_Tc (am_Tw (tK_firstBroken_l tl (((256 : Int32).toInt - Int32.toInt (48 : Int32)).toNat + 1) i a (48 : Int32) (48 : Int32) (Nat.lt_add_one _) (by decide)) ⟨Or.inr rfl, Or.inr rfl, Or.inr rfl, Or.inl rfl, trivial⟩) (by unfold rK_firstBroken; rfl) (by unfold aK_firstBroken; rfl)
noncomputable def rK_firstUnsafe_l : Nat → (Nat → Int32) → (Nat → Nat → Int32) → Int32 → Int32
  | 0, _, _, _ => 0
  | f + 1, i, a, n => if (i 5) ≤ n then (-1 : Int32) else if (rK_begunAt i a n) = (0 : Int32) then (rK_firstUnsafe_l f i a (n + (2 : Int32))) else if (rK_isSafe i a n (rK_begunAt i a n)) = (0 : Int32) then n else (rK_firstUnsafe_l f i a (n + (2 : Int32)))
set_option maxHeartbeats 4000000 in
set_option maxRecDepth 100000 in
theorem tK_firstUnsafe_l (tl : List am_Cl) : ∀ (f : Nat) (i : Nat → Int32) (a : Nat → Nat → Int32) (n : Int32), (Int32.toInt (i 5) - Int32.toInt n).toNat < f → (i 5).toInt ≤ 1000 → am_T sK_firstUnsafe (some (.int (rK_firstUnsafe_l f i a n))) (wX i a tl) 3 [.ref 18, .int n] [] (wX i a tl) 0 0 := by
  intro f
  induction f with
  | zero => intro i a n hm; exact absurd hm (Nat.not_lt_zero _)
  | succ f ih =>
    intro i a n hm hs
    refine am_wu_T gdK_firstUnsafe [3] 400 ?_
    refine am_split (fun h1 => ?_) (fun h1 => ?_)
    · skip
      exact am_ri (S := sK_firstUnsafe) (by simp only [rK_firstUnsafe_l, if_pos h1]; try rfl) rfl rfl rfl
    · skip
      refine am_call (eK_begunAt i a n tl) ?_
      refine am_split (fun h2 => ?_) (fun h2 => ?_)
      · skip
        exact am_Tc (am_Tw (ih i a (n + (2 : Int32)) (ms_up2 (by assumption) hs hm) hs) ⟨Or.inr rfl, Or.inr rfl, trivial⟩) (by simp only [rK_firstUnsafe_l, if_neg h1, if_pos h2]) rfl
      · skip
        refine am_call (eK_begunAt i a n tl) ?_
        refine am_call (eK_isSafe i a n (rK_begunAt i a n) tl) ?_
        refine am_split (fun h3 => ?_) (fun h3 => ?_)
        · skip
          exact am_ri (S := sK_firstUnsafe) (by simp only [rK_firstUnsafe_l, if_neg h1, if_neg h2, if_pos h3]; try rfl) rfl rfl rfl
        · skip
          exact am_Tc (am_Tw (ih i a (n + (2 : Int32)) (ms_up2 (by assumption) hs hm) hs) ⟨Or.inr rfl, Or.inr rfl, trivial⟩) (by simp only [rK_firstUnsafe_l, if_neg h1, if_neg h2, if_neg h3]) rfl
noncomputable def rK_firstUnsafe (i : Nat → Int32) (a : Nat → Nat → Int32) : Int32 := (rK_firstUnsafe_l ((Int32.toInt (i 5) - Int32.toInt (48 : Int32)).toNat + 1) i a (48 : Int32))
set_option maxHeartbeats 4000000 in
set_option maxRecDepth 100000 in
theorem eK_firstUnsafe (i : Nat → Int32) (a : Nat → Nat → Int32) (tl : List am_Cl) (hs : (i 5).toInt ≤ 1000) : am_Ev sK_firstUnsafe [.ref 18] (wX i a tl) (some (.int (rK_firstUnsafe i a ))) (wX i a tl) := by
  refine am_Ev_of cwK_firstUnsafe rfl rfl rfl (am_wt_T gdK_firstUnsafe [3] 400 ?_)
  exact am_Tc (am_Tw (tK_firstUnsafe_l tl ((Int32.toInt (i 5) - Int32.toInt (48 : Int32)).toNat + 1) i a (48 : Int32) (Nat.lt_add_one _) hs) ⟨Or.inr rfl, Or.inr rfl, trivial⟩) (by unfold rK_firstUnsafe; rfl) rfl
noncomputable def rK_firstWrong (i : Nat → Int32) (a : Nat → Nat → Int32) : Int32 := if (i 5) ≤ (48 : Int32) then (48 : Int32) else if ((i 5) - (i 5) / (16 : Int32) * (16 : Int32)) = (0 : Int32) then if (rK_firstBroken i a ) = (-1 : Int32) then (rK_firstUnsafe i (aK_firstBroken i a ) ) else (rK_firstBroken i a ) else (48 : Int32)
noncomputable def aK_firstWrong (i : Nat → Int32) (a : Nat → Nat → Int32) : Nat → Nat → Int32 := if (i 5) ≤ (48 : Int32) then a else if ((i 5) - (i 5) / (16 : Int32) * (16 : Int32)) = (0 : Int32) then if (rK_firstBroken i a ) = (-1 : Int32) then (aK_firstBroken i a ) else (aK_firstBroken i a ) else a
set_option maxHeartbeats 4000000 in
set_option maxRecDepth 100000 in
theorem eK_firstWrong (i : Nat → Int32) (a : Nat → Nat → Int32) (tl : List am_Cl) (hs : (i 5).toInt ≤ 1000) : am_Ev sK_firstWrong [.ref 18] (wX i a tl) (some (.int (rK_firstWrong i a ))) (wX i (aK_firstWrong i a ) tl) := by
  refine am_Ev_of cwK_firstWrong rfl rfl rfl (am_wp_T gdK_firstWrong 400 ?_)
  refine am_split (fun h1 => ?_) (fun h1 => ?_)
  · skip
    exact am_ri (x := (48 : Int32)) (S := sK_firstWrong) (congrArg (fun x => some (Value.int x)) (by unfold rK_firstWrong; rw [if_pos h1])) (am_w2 (i2 := i) (a2 := a) rfl (by unfold aK_firstWrong; rw [if_pos h1]) rfl) rfl rfl
  · skip
    refine am_split (fun h2 => ?_) (fun h2 => ?_)
    · skip
      refine am_callga (eK_firstBroken i a  tl) (fun A1 hA1 => ?_)
      refine am_split (fun h3 => ?_) (fun h3 => ?_)
      · skip
        refine am_call (eK_firstUnsafe i A1  tl  (by assumption)) ?_
        exact am_ri (x := (rK_firstUnsafe i A1 )) (S := sK_firstWrong) (congrArg (fun x => some (Value.int x)) (by unfold rK_firstWrong; (try rw [← hA1]); rw [if_neg h1, if_pos h2, if_pos h3])) (am_w2 (i2 := i) (a2 := A1) rfl (by unfold aK_firstWrong; (try rw [← hA1]); rw [if_neg h1, if_pos h2, if_pos h3]) rfl) rfl rfl
      · skip
        exact am_ri (x := (rK_firstBroken i a )) (S := sK_firstWrong) (congrArg (fun x => some (Value.int x)) (by unfold rK_firstWrong; (try rw [← hA1]); rw [if_neg h1, if_pos h2, if_neg h3])) (am_w2 (i2 := i) (a2 := A1) rfl (by unfold aK_firstWrong; (try rw [← hA1]); rw [if_neg h1, if_pos h2, if_neg h3]) rfl) rfl rfl
    · skip
      exact am_ri (x := (48 : Int32)) (S := sK_firstWrong) (congrArg (fun x => some (Value.int x)) (by unfold rK_firstWrong; rw [if_neg h1, if_neg h2])) (am_w2 (i2 := i) (a2 := a) rfl (by unfold aK_firstWrong; rw [if_neg h1, if_neg h2]) rfl) rfl rfl
noncomputable def rX_check (i : Nat → Int32) (a : Nat → Nat → Int32) : Int32 := (rK_firstWrong i a )
noncomputable def aX_check (i : Nat → Int32) (a : Nat → Nat → Int32) : Nat → Nat → Int32 := (aK_firstWrong i a )
set_option maxHeartbeats 4000000 in
set_option maxRecDepth 100000 in
theorem eX_check (i : Nat → Int32) (a : Nat → Nat → Int32) (tl : List am_Cl) (hs : (i 5).toInt ≤ 1000) : am_Ev sX_check [.ref 0] (wX i a tl) (some (.int (rX_check i a ))) (wX i (aX_check i a ) tl) := by
  refine am_Ev_of cwX_check rfl rfl rfl (am_wp_T gdX_check 400 ?_)
  refine am_callga (eK_firstWrong i a  tl  (by assumption)) (fun A1 hA1 => ?_)
  exact am_ri (x := (rK_firstWrong i a )) (S := sX_check) (congrArg (fun x => some (Value.int x)) (by unfold rX_check; (try rw [← hA1]); first | done | rfl)) (am_w2 (i2 := i) (a2 := A1) rfl (by unfold aX_check; (try rw [← hA1]); first | done | rfl) rfl) rfl rfl
noncomputable def iU_forgetAll_M_2 : Nat → (Nat → Int32) → (Nat → Nat → Int32) → Int32 → Nat → Int32
  | 0, i, _, _ => i
  | f + 1, i, a, n => if (16 : Int32) ≤ n then (sI (sI (sI i (0 : Int32) 8) (0 : Int32) 9) (0 : Int32) 10) else (iU_forgetAll_M_2 f i (sA a (upd (a 16) (Int32.toNatClampNeg n) (0 : Int32)) 16) (n + (1 : Int32)))
noncomputable def aU_forgetAll_M_2 : Nat → (Nat → Int32) → (Nat → Nat → Int32) → Int32 → Nat → Nat → Int32
  | 0, _, a, _ => a
  | f + 1, i, a, n => if (16 : Int32) ≤ n then a else (aU_forgetAll_M_2 f i (sA a (upd (a 16) (Int32.toNatClampNeg n) (0 : Int32)) 16) (n + (1 : Int32)))
set_option maxHeartbeats 4000000 in
set_option maxRecDepth 100000 in
theorem tU_forgetAll_M_2 (tl : List am_Cl) : ∀ (f : Nat) (i : Nat → Int32) (a : Nat → Nat → Int32) (n : Int32), ((16 : Int32).toInt - Int32.toInt n).toNat < f → 0 ≤ n.toInt → am_T sU_forgetAll none (wX (iU_forgetAll_M_2 f i a n) (aU_forgetAll_M_2 f i a n) tl) 23 [.ref 22, .int n] [] (wX i a tl) 0 0 := by
  intro f
  induction f with
  | zero => intro i a n hm; exact absurd hm (Nat.not_lt_zero _)
  | succ f ih =>
    intro i a n hm hk
    refine am_wu_T gdU_forgetAll [23] 400 ?_
    refine am_split (fun h1 => ?_) (fun h1 => ?_)
    · skip
      exact am_rv (S := sU_forgetAll) (by simp only [iU_forgetAll_M_2, aU_forgetAll_M_2, if_pos h1]; try rfl) rfl
    · skip
      refine And.intro (by exact vp_nn (M := 16) hk (by assumption) (by decide)) ?_
      exact am_Tc (am_Tw (ih i (sA a (upd (a 16) (Int32.toNatClampNeg n) (0 : Int32)) 16) (n + (1 : Int32)) (ms_up (M := 16) (by assumption) hm) (nn_up (M := 16) hk (by assumption))) ⟨Or.inr rfl, Or.inr rfl, trivial⟩) rfl (by simp only [iU_forgetAll_M_2, aU_forgetAll_M_2, if_neg h1])
noncomputable def iU_forgetAll_M_1 : Nat → (Nat → Int32) → (Nat → Nat → Int32) → Int32 → Nat → Int32
  | 0, i, _, _ => i
  | f + 1, i, a, n => if (32 : Int32) ≤ n then (iU_forgetAll_M_2 (((16 : Int32).toInt - Int32.toInt (0 : Int32)).toNat + 1) i a (0 : Int32)) else (iU_forgetAll_M_1 f i (sA a (upd (a 15) (Int32.toNatClampNeg n) (0 : Int32)) 15) (n + (1 : Int32)))
noncomputable def aU_forgetAll_M_1 : Nat → (Nat → Int32) → (Nat → Nat → Int32) → Int32 → Nat → Nat → Int32
  | 0, _, a, _ => a
  | f + 1, i, a, n => if (32 : Int32) ≤ n then (aU_forgetAll_M_2 (((16 : Int32).toInt - Int32.toInt (0 : Int32)).toNat + 1) i a (0 : Int32)) else (aU_forgetAll_M_1 f i (sA a (upd (a 15) (Int32.toNatClampNeg n) (0 : Int32)) 15) (n + (1 : Int32)))
set_option maxHeartbeats 4000000 in
set_option maxRecDepth 100000 in
theorem tU_forgetAll_M_1 (tl : List am_Cl) : ∀ (f : Nat) (i : Nat → Int32) (a : Nat → Nat → Int32) (n : Int32), ((32 : Int32).toInt - Int32.toInt n).toNat < f → 0 ≤ n.toInt → am_T sU_forgetAll none (wX (iU_forgetAll_M_1 f i a n) (aU_forgetAll_M_1 f i a n) tl) 2 [.ref 22, .int n] [] (wX i a tl) 0 0 := by
  intro f
  induction f with
  | zero => intro i a n hm; exact absurd hm (Nat.not_lt_zero _)
  | succ f ih =>
    intro i a n hm hk
    refine am_wu_T gdU_forgetAll [2, 23] 400 ?_
    refine am_split (fun h1 => ?_) (fun h1 => ?_)
    · skip
      exact am_Tc (am_Tw (tU_forgetAll_M_2 tl (((16 : Int32).toInt - Int32.toInt (0 : Int32)).toNat + 1) i a (0 : Int32) (Nat.lt_add_one _) (by decide)) ⟨Or.inr rfl, Or.inr rfl, trivial⟩) rfl (by unfold iU_forgetAll_M_1 aU_forgetAll_M_1; simp only [if_pos h1]; try rfl)
    · skip
      refine And.intro (by exact vp_nn (M := 32) hk (by assumption) (by decide)) ?_
      exact am_Tc (am_Tw (ih i (sA a (upd (a 15) (Int32.toNatClampNeg n) (0 : Int32)) 15) (n + (1 : Int32)) (ms_up (M := 32) (by assumption) hm) (nn_up (M := 32) hk (by assumption))) ⟨Or.inr rfl, Or.inr rfl, trivial⟩) rfl (by simp only [iU_forgetAll_M_1, aU_forgetAll_M_1, if_neg h1])
noncomputable def iU_forgetAll_M (i : Nat → Int32) (a : Nat → Nat → Int32) : Nat → Int32 := (iU_forgetAll_M_1 (((32 : Int32).toInt - Int32.toInt (0 : Int32)).toNat + 1) i a (0 : Int32))
noncomputable def aU_forgetAll_M (i : Nat → Int32) (a : Nat → Nat → Int32) : Nat → Nat → Int32 := (aU_forgetAll_M_1 (((32 : Int32).toInt - Int32.toInt (0 : Int32)).toNat + 1) i a (0 : Int32))
set_option maxHeartbeats 4000000 in
set_option maxRecDepth 100000 in
theorem eU_forgetAll_M (i : Nat → Int32) (a : Nat → Nat → Int32) (tl : List am_Cl) : am_Ev sU_forgetAll [.ref 22] (wX i a tl) none (wX (iU_forgetAll_M i a ) (aU_forgetAll_M i a ) tl) := by
  refine am_Ev_of cwU_forgetAll rfl rfl rfl (am_wt_T gdU_forgetAll [2] 400 ?_)
  exact am_Tc (am_Tw (tU_forgetAll_M_1 tl (((32 : Int32).toInt - Int32.toInt (0 : Int32)).toNat + 1) i a (0 : Int32) (Nat.lt_add_one _) (by decide)) ⟨Or.inr rfl, Or.inr rfl, trivial⟩) rfl (by unfold iU_forgetAll_M aU_forgetAll_M; rfl)
noncomputable def iU_forgetAll_T_2 : Nat → (Nat → Int32) → (Nat → Nat → Int32) → Int32 → Nat → Int32
  | 0, i, _, _ => i
  | f + 1, i, a, n => if (16 : Int32) ≤ n then (sI (sI (sI i (0 : Int32) 12) (0 : Int32) 13) (0 : Int32) 14) else (iU_forgetAll_T_2 f i (sA a (upd (a 19) (Int32.toNatClampNeg n) (0 : Int32)) 19) (n + (1 : Int32)))
noncomputable def aU_forgetAll_T_2 : Nat → (Nat → Int32) → (Nat → Nat → Int32) → Int32 → Nat → Nat → Int32
  | 0, _, a, _ => a
  | f + 1, i, a, n => if (16 : Int32) ≤ n then a else (aU_forgetAll_T_2 f i (sA a (upd (a 19) (Int32.toNatClampNeg n) (0 : Int32)) 19) (n + (1 : Int32)))
set_option maxHeartbeats 4000000 in
set_option maxRecDepth 100000 in
theorem tU_forgetAll_T_2 (tl : List am_Cl) : ∀ (f : Nat) (i : Nat → Int32) (a : Nat → Nat → Int32) (n : Int32), ((16 : Int32).toInt - Int32.toInt n).toNat < f → 0 ≤ n.toInt → am_T sU_forgetAll none (wX (iU_forgetAll_T_2 f i a n) (aU_forgetAll_T_2 f i a n) tl) 23 [.ref 26, .int n] [] (wX i a tl) 0 0 := by
  intro f
  induction f with
  | zero => intro i a n hm; exact absurd hm (Nat.not_lt_zero _)
  | succ f ih =>
    intro i a n hm hk
    refine am_wu_T gdU_forgetAll [23] 400 ?_
    refine am_split (fun h1 => ?_) (fun h1 => ?_)
    · skip
      exact am_rv (S := sU_forgetAll) (by simp only [iU_forgetAll_T_2, aU_forgetAll_T_2, if_pos h1]; try rfl) rfl
    · skip
      refine And.intro (by exact vp_nn (M := 16) hk (by assumption) (by decide)) ?_
      exact am_Tc (am_Tw (ih i (sA a (upd (a 19) (Int32.toNatClampNeg n) (0 : Int32)) 19) (n + (1 : Int32)) (ms_up (M := 16) (by assumption) hm) (nn_up (M := 16) hk (by assumption))) ⟨Or.inr rfl, Or.inr rfl, trivial⟩) rfl (by simp only [iU_forgetAll_T_2, aU_forgetAll_T_2, if_neg h1])
noncomputable def iU_forgetAll_T_1 : Nat → (Nat → Int32) → (Nat → Nat → Int32) → Int32 → Nat → Int32
  | 0, i, _, _ => i
  | f + 1, i, a, n => if (32 : Int32) ≤ n then (iU_forgetAll_T_2 (((16 : Int32).toInt - Int32.toInt (0 : Int32)).toNat + 1) i a (0 : Int32)) else (iU_forgetAll_T_1 f i (sA a (upd (a 18) (Int32.toNatClampNeg n) (0 : Int32)) 18) (n + (1 : Int32)))
noncomputable def aU_forgetAll_T_1 : Nat → (Nat → Int32) → (Nat → Nat → Int32) → Int32 → Nat → Nat → Int32
  | 0, _, a, _ => a
  | f + 1, i, a, n => if (32 : Int32) ≤ n then (aU_forgetAll_T_2 (((16 : Int32).toInt - Int32.toInt (0 : Int32)).toNat + 1) i a (0 : Int32)) else (aU_forgetAll_T_1 f i (sA a (upd (a 18) (Int32.toNatClampNeg n) (0 : Int32)) 18) (n + (1 : Int32)))
set_option maxHeartbeats 4000000 in
set_option maxRecDepth 100000 in
theorem tU_forgetAll_T_1 (tl : List am_Cl) : ∀ (f : Nat) (i : Nat → Int32) (a : Nat → Nat → Int32) (n : Int32), ((32 : Int32).toInt - Int32.toInt n).toNat < f → 0 ≤ n.toInt → am_T sU_forgetAll none (wX (iU_forgetAll_T_1 f i a n) (aU_forgetAll_T_1 f i a n) tl) 2 [.ref 26, .int n] [] (wX i a tl) 0 0 := by
  intro f
  induction f with
  | zero => intro i a n hm; exact absurd hm (Nat.not_lt_zero _)
  | succ f ih =>
    intro i a n hm hk
    refine am_wu_T gdU_forgetAll [2, 23] 400 ?_
    refine am_split (fun h1 => ?_) (fun h1 => ?_)
    · skip
      exact am_Tc (am_Tw (tU_forgetAll_T_2 tl (((16 : Int32).toInt - Int32.toInt (0 : Int32)).toNat + 1) i a (0 : Int32) (Nat.lt_add_one _) (by decide)) ⟨Or.inr rfl, Or.inr rfl, trivial⟩) rfl (by unfold iU_forgetAll_T_1 aU_forgetAll_T_1; simp only [if_pos h1]; try rfl)
    · skip
      refine And.intro (by exact vp_nn (M := 32) hk (by assumption) (by decide)) ?_
      exact am_Tc (am_Tw (ih i (sA a (upd (a 18) (Int32.toNatClampNeg n) (0 : Int32)) 18) (n + (1 : Int32)) (ms_up (M := 32) (by assumption) hm) (nn_up (M := 32) hk (by assumption))) ⟨Or.inr rfl, Or.inr rfl, trivial⟩) rfl (by simp only [iU_forgetAll_T_1, aU_forgetAll_T_1, if_neg h1])
noncomputable def iU_forgetAll_T (i : Nat → Int32) (a : Nat → Nat → Int32) : Nat → Int32 := (iU_forgetAll_T_1 (((32 : Int32).toInt - Int32.toInt (0 : Int32)).toNat + 1) i a (0 : Int32))
noncomputable def aU_forgetAll_T (i : Nat → Int32) (a : Nat → Nat → Int32) : Nat → Nat → Int32 := (aU_forgetAll_T_1 (((32 : Int32).toInt - Int32.toInt (0 : Int32)).toNat + 1) i a (0 : Int32))
set_option maxHeartbeats 4000000 in
set_option maxRecDepth 100000 in
theorem eU_forgetAll_T (i : Nat → Int32) (a : Nat → Nat → Int32) (tl : List am_Cl) : am_Ev sU_forgetAll [.ref 26] (wX i a tl) none (wX (iU_forgetAll_T i a ) (aU_forgetAll_T i a ) tl) := by
  refine am_Ev_of cwU_forgetAll rfl rfl rfl (am_wt_T gdU_forgetAll [2] 400 ?_)
  exact am_Tc (am_Tw (tU_forgetAll_T_1 tl (((32 : Int32).toInt - Int32.toInt (0 : Int32)).toNat + 1) i a (0 : Int32) (Nat.lt_add_one _) (by decide)) ⟨Or.inr rfl, Or.inr rfl, trivial⟩) rfl (by unfold iU_forgetAll_T aU_forgetAll_T; rfl)
noncomputable def rT_leap (i : Nat → Int32) (a : Nat → Nat → Int32) (p q r : Int32) : Int32 := if (rP_bundleTargetAt i a q) = (-1 : Int32) then (5 : Int32) else (0 : Int32)
noncomputable def iT_leap (i : Nat → Int32) (a : Nat → Nat → Int32) (p q r : Int32) : Nat → Int32 := if (rP_bundleTargetAt i a q) = (-1 : Int32) then i else (sI i (rP_bundleTargetAt i a q) 15)
noncomputable def aT_leap (i : Nat → Int32) (a : Nat → Nat → Int32) (p q r : Int32) : Nat → Nat → Int32 := if (rP_bundleTargetAt i a q) = (-1 : Int32) then a else (aU_set_T i a p r)
set_option maxHeartbeats 4000000 in
set_option maxRecDepth 100000 in
theorem eT_leap (i : Nat → Int32) (a : Nat → Nat → Int32) (p q r : Int32) (tl : List am_Cl) (hc : (i 3).toInt ≤ 1000) : am_Ev sT_leap [.ref 26, .int p, .int q, .int r] (wX i a tl) (some (.int (rT_leap i a p q r))) (wX (iT_leap i a p q r) (aT_leap i a p q r) tl) := by
  refine am_Ev_of cwT_leap rfl rfl rfl (am_wp_T gdT_leap 400 ?_)
  refine am_call (eP_bundleTargetAt i a q tl  (by assumption)) ?_
  refine am_split (fun h1 => ?_) (fun h1 => ?_)
  · skip
    exact am_ri (S := sT_leap) (by unfold rT_leap; simp only [if_pos h1]; try rfl) (by unfold iT_leap aT_leap; simp only [if_pos h1]; try rfl) rfl rfl
  · skip
    refine am_call (eU_set_T i a p r tl) ?_
    exact am_ri (S := sT_leap) (by unfold rT_leap; simp only [if_neg h1]; try rfl) (by unfold iT_leap aT_leap; simp only [if_neg h1]; try rfl) rfl rfl
noncomputable def rT_step (i : Nat → Int32) (a : Nat → Nat → Int32) : Int32 := if (i 15) < (0 : Int32) then (2 : Int32) else if (i 15) < (i 3) then if (rP_kindAt_b i a (i 15)) = (6 : Int32) then if (rU_moves_T i a (rP_kindAt_b i a (i 15)) (rP_firstAt_b i a (i 15)) (rP_secondAt_b i a (i 15)) (rP_thirdAt_b i a (i 15))) = (0 : Int32) then (4 : Int32) else (0 : Int32) else if (rP_kindAt_b i a (i 15)) = (7 : Int32) then if (rU_moves_T i a (rP_kindAt_b i a (i 15)) (rP_firstAt_b i a (i 15)) (rP_secondAt_b i a (i 15)) (rP_thirdAt_b i a (i 15))) = (0 : Int32) then (4 : Int32) else (0 : Int32) else if (rP_kindAt_b i a (i 15)) = (8 : Int32) then if (rU_branches_T i a (rP_kindAt_b i a (i 15)) (rP_firstAt_b i a (i 15)) (rP_secondAt_b i a (i 15))) = (0 : Int32) then (0 : Int32) else (0 : Int32) else if (rP_kindAt_b i a (i 15)) = (9 : Int32) then if (rU_branches_T i a (rP_kindAt_b i a (i 15)) (rP_firstAt_b i a (i 15)) (rP_secondAt_b i a (i 15))) = (0 : Int32) then (0 : Int32) else (0 : Int32) else if (rP_kindAt_b i a (i 15)) = (10 : Int32) then if (rU_branches_T i a (rP_kindAt_b i a (i 15)) (rP_firstAt_b i a (i 15)) (rP_secondAt_b i a (i 15))) = (0 : Int32) then (0 : Int32) else (0 : Int32) else if (rP_kindAt_b i a (i 15)) = (11 : Int32) then (0 : Int32) else if (rP_kindAt_b i a (i 15)) = (12 : Int32) then (rT_leap i a (rP_firstAt_b i a (i 15)) (rU_get_T i a (rP_secondAt_b i a (i 15))) (rP_addressOf_b i a ((i 15) + (1 : Int32)))) else if (rP_kindAt_b i a (i 15)) = (13 : Int32) then (0 : Int32) else if (rP_kindAt_b i a (i 15)) = (14 : Int32) then (0 : Int32) else if (rP_kindAt_b i a (i 15)) = (15 : Int32) then (rT_serve i (aU_set_T i a (1 : Int32) (rP_addressOf_b i a ((i 15) + (1 : Int32)))) (rP_firstAt_b i a (i 15)) ((i 15) + (1 : Int32))) else if (rP_kindAt_b i a (i 15)) = (16 : Int32) then (0 : Int32) else (0 : Int32) else (2 : Int32)
noncomputable def iT_step (i : Nat → Int32) (a : Nat → Nat → Int32) : Nat → Int32 := if (i 15) < (0 : Int32) then i else if (i 15) < (i 3) then if (rP_kindAt_b i a (i 15)) = (6 : Int32) then if (rU_moves_T i a (rP_kindAt_b i a (i 15)) (rP_firstAt_b i a (i 15)) (rP_secondAt_b i a (i 15)) (rP_thirdAt_b i a (i 15))) = (0 : Int32) then i else (sI i ((i 15) + (1 : Int32)) 15) else if (rP_kindAt_b i a (i 15)) = (7 : Int32) then if (rU_moves_T i a (rP_kindAt_b i a (i 15)) (rP_firstAt_b i a (i 15)) (rP_secondAt_b i a (i 15)) (rP_thirdAt_b i a (i 15))) = (0 : Int32) then i else (sI i ((i 15) + (1 : Int32)) 15) else if (rP_kindAt_b i a (i 15)) = (8 : Int32) then if (rU_branches_T i a (rP_kindAt_b i a (i 15)) (rP_firstAt_b i a (i 15)) (rP_secondAt_b i a (i 15))) = (0 : Int32) then (sI i ((i 15) + (1 : Int32)) 15) else (sI i (rP_thirdAt_b i a (i 15)) 15) else if (rP_kindAt_b i a (i 15)) = (9 : Int32) then if (rU_branches_T i a (rP_kindAt_b i a (i 15)) (rP_firstAt_b i a (i 15)) (rP_secondAt_b i a (i 15))) = (0 : Int32) then (sI i ((i 15) + (1 : Int32)) 15) else (sI i (rP_thirdAt_b i a (i 15)) 15) else if (rP_kindAt_b i a (i 15)) = (10 : Int32) then if (rU_branches_T i a (rP_kindAt_b i a (i 15)) (rP_firstAt_b i a (i 15)) (rP_secondAt_b i a (i 15))) = (0 : Int32) then (sI i ((i 15) + (1 : Int32)) 15) else (sI i (rP_thirdAt_b i a (i 15)) 15) else if (rP_kindAt_b i a (i 15)) = (11 : Int32) then (sI i (rP_secondAt_b i a (i 15)) 15) else if (rP_kindAt_b i a (i 15)) = (12 : Int32) then (iT_leap i a (rP_firstAt_b i a (i 15)) (rU_get_T i a (rP_secondAt_b i a (i 15))) (rP_addressOf_b i a ((i 15) + (1 : Int32)))) else if (rP_kindAt_b i a (i 15)) = (13 : Int32) then (sI i ((i 15) + (1 : Int32)) 15) else if (rP_kindAt_b i a (i 15)) = (14 : Int32) then (sI i ((i 15) + (1 : Int32)) 15) else if (rP_kindAt_b i a (i 15)) = (15 : Int32) then (iT_serve i (aU_set_T i a (1 : Int32) (rP_addressOf_b i a ((i 15) + (1 : Int32)))) (rP_firstAt_b i a (i 15)) ((i 15) + (1 : Int32))) else if (rP_kindAt_b i a (i 15)) = (16 : Int32) then (sI i ((i 15) + (1 : Int32)) 15) else (sI i ((i 15) + (1 : Int32)) 15) else i
noncomputable def aT_step (i : Nat → Int32) (a : Nat → Nat → Int32) : Nat → Nat → Int32 := if (i 15) < (0 : Int32) then a else if (i 15) < (i 3) then if (rP_kindAt_b i a (i 15)) = (6 : Int32) then if (rU_moves_T i a (rP_kindAt_b i a (i 15)) (rP_firstAt_b i a (i 15)) (rP_secondAt_b i a (i 15)) (rP_thirdAt_b i a (i 15))) = (0 : Int32) then (aU_moves_T i a (rP_kindAt_b i a (i 15)) (rP_firstAt_b i a (i 15)) (rP_secondAt_b i a (i 15)) (rP_thirdAt_b i a (i 15))) else (aU_moves_T i a (rP_kindAt_b i a (i 15)) (rP_firstAt_b i a (i 15)) (rP_secondAt_b i a (i 15)) (rP_thirdAt_b i a (i 15))) else if (rP_kindAt_b i a (i 15)) = (7 : Int32) then if (rU_moves_T i a (rP_kindAt_b i a (i 15)) (rP_firstAt_b i a (i 15)) (rP_secondAt_b i a (i 15)) (rP_thirdAt_b i a (i 15))) = (0 : Int32) then (aU_moves_T i a (rP_kindAt_b i a (i 15)) (rP_firstAt_b i a (i 15)) (rP_secondAt_b i a (i 15)) (rP_thirdAt_b i a (i 15))) else (aU_moves_T i a (rP_kindAt_b i a (i 15)) (rP_firstAt_b i a (i 15)) (rP_secondAt_b i a (i 15)) (rP_thirdAt_b i a (i 15))) else if (rP_kindAt_b i a (i 15)) = (8 : Int32) then if (rU_branches_T i a (rP_kindAt_b i a (i 15)) (rP_firstAt_b i a (i 15)) (rP_secondAt_b i a (i 15))) = (0 : Int32) then a else a else if (rP_kindAt_b i a (i 15)) = (9 : Int32) then if (rU_branches_T i a (rP_kindAt_b i a (i 15)) (rP_firstAt_b i a (i 15)) (rP_secondAt_b i a (i 15))) = (0 : Int32) then a else a else if (rP_kindAt_b i a (i 15)) = (10 : Int32) then if (rU_branches_T i a (rP_kindAt_b i a (i 15)) (rP_firstAt_b i a (i 15)) (rP_secondAt_b i a (i 15))) = (0 : Int32) then a else a else if (rP_kindAt_b i a (i 15)) = (11 : Int32) then (aU_set_T i a (rP_firstAt_b i a (i 15)) (rP_addressOf_b i a ((i 15) + (1 : Int32)))) else if (rP_kindAt_b i a (i 15)) = (12 : Int32) then (aT_leap i a (rP_firstAt_b i a (i 15)) (rU_get_T i a (rP_secondAt_b i a (i 15))) (rP_addressOf_b i a ((i 15) + (1 : Int32)))) else if (rP_kindAt_b i a (i 15)) = (13 : Int32) then (aU_compute_T i a (rP_kindAt_b i a (i 15)) (rP_firstAt_b i a (i 15)) (rP_secondAt_b i a (i 15)) (rP_thirdAt_b i a (i 15))) else if (rP_kindAt_b i a (i 15)) = (14 : Int32) then (aU_compute_T i a (rP_kindAt_b i a (i 15)) (rP_firstAt_b i a (i 15)) (rP_secondAt_b i a (i 15)) (rP_thirdAt_b i a (i 15))) else if (rP_kindAt_b i a (i 15)) = (15 : Int32) then (aT_serve i (aU_set_T i a (1 : Int32) (rP_addressOf_b i a ((i 15) + (1 : Int32)))) (rP_firstAt_b i a (i 15)) ((i 15) + (1 : Int32))) else if (rP_kindAt_b i a (i 15)) = (16 : Int32) then (aU_set_T i a (rP_firstAt_b i a (i 15)) (rP_addressOf_b i a (rP_secondAt_b i a (i 15)))) else (aU_compute_T i a (rP_kindAt_b i a (i 15)) (rP_firstAt_b i a (i 15)) (rP_secondAt_b i a (i 15)) (rP_thirdAt_b i a (i 15))) else a
set_option maxHeartbeats 4000000 in
set_option maxRecDepth 100000 in
theorem eT_step (i : Nat → Int32) (a : Nat → Nat → Int32) (tl : List am_Cl) (hc : (i 3).toInt ≤ 1000) : am_Ev sT_step [.ref 26] (wX i a tl) (some (.int (rT_step i a ))) (wX (iT_step i a ) (aT_step i a ) tl) := by
  refine am_Ev_of cwT_step rfl rfl rfl (am_wp_T gdT_step 400 ?_)
  refine am_split (fun h1 => ?_) (fun h1 => ?_)
  · skip
    exact am_ri (S := sT_step) (by unfold rT_step; simp only [if_pos h1]; try rfl) (by unfold iT_step aT_step; simp only [if_pos h1]; try rfl) rfl rfl
  · skip
    refine am_split (fun h2 => ?_) (fun h2 => ?_)
    · skip
      refine am_call (eP_kindAt_b i a (i 15) tl) ?_
      refine am_call (eP_firstAt_b i a (i 15) tl) ?_
      refine am_call (eP_secondAt_b i a (i 15) tl) ?_
      refine am_call (eP_thirdAt_b i a (i 15) tl) ?_
      refine am_split (fun h3 => ?_) (fun h3 => ?_)
      · skip
        refine am_call (eU_moves_T i a (rP_kindAt_b i a (i 15)) (rP_firstAt_b i a (i 15)) (rP_secondAt_b i a (i 15)) (rP_thirdAt_b i a (i 15)) tl) ?_
        refine am_split (fun h4 => ?_) (fun h4 => ?_)
        · skip
          exact am_ri (S := sT_step) (by unfold rT_step; simp only [if_neg h1, if_pos h2, if_pos h3, if_pos h4]; try rfl) (by unfold iT_step aT_step; simp only [if_neg h1, if_pos h2, if_pos h3, if_pos h4]; try rfl) rfl rfl
        · skip
          exact am_ri (S := sT_step) (by unfold rT_step; simp only [if_neg h1, if_pos h2, if_pos h3, if_neg h4]; try rfl) (by unfold iT_step aT_step; simp only [if_neg h1, if_pos h2, if_pos h3, if_neg h4]; try rfl) rfl rfl
      · skip
        refine am_split (fun h5 => ?_) (fun h5 => ?_)
        · skip
          refine am_call (eU_moves_T i a (rP_kindAt_b i a (i 15)) (rP_firstAt_b i a (i 15)) (rP_secondAt_b i a (i 15)) (rP_thirdAt_b i a (i 15)) tl) ?_
          refine am_split (fun h6 => ?_) (fun h6 => ?_)
          · skip
            exact am_ri (S := sT_step) (by unfold rT_step; simp only [if_neg h1, if_pos h2, if_neg h3, if_pos h5, if_pos h6]; try rfl) (by unfold iT_step aT_step; simp only [if_neg h1, if_pos h2, if_neg h3, if_pos h5, if_pos h6]; try rfl) rfl rfl
          · skip
            exact am_ri (S := sT_step) (by unfold rT_step; simp only [if_neg h1, if_pos h2, if_neg h3, if_pos h5, if_neg h6]; try rfl) (by unfold iT_step aT_step; simp only [if_neg h1, if_pos h2, if_neg h3, if_pos h5, if_neg h6]; try rfl) rfl rfl
        · skip
          refine am_split (fun h7 => ?_) (fun h7 => ?_)
          · skip
            refine am_call (eU_branches_T i a (rP_kindAt_b i a (i 15)) (rP_firstAt_b i a (i 15)) (rP_secondAt_b i a (i 15)) tl) ?_
            refine am_split (fun h8 => ?_) (fun h8 => ?_)
            · skip
              exact am_ri (S := sT_step) (by unfold rT_step; simp only [if_neg h1, if_pos h2, if_neg h3, if_neg h5, if_pos h7, if_pos h8]; try rfl) (by unfold iT_step aT_step; simp only [if_neg h1, if_pos h2, if_neg h3, if_neg h5, if_pos h7, if_pos h8]; try rfl) rfl rfl
            · skip
              exact am_ri (S := sT_step) (by unfold rT_step; simp only [if_neg h1, if_pos h2, if_neg h3, if_neg h5, if_pos h7, if_neg h8]; try rfl) (by unfold iT_step aT_step; simp only [if_neg h1, if_pos h2, if_neg h3, if_neg h5, if_pos h7, if_neg h8]; try rfl) rfl rfl
          · skip
            refine am_split (fun h9 => ?_) (fun h9 => ?_)
            · skip
              refine am_call (eU_branches_T i a (rP_kindAt_b i a (i 15)) (rP_firstAt_b i a (i 15)) (rP_secondAt_b i a (i 15)) tl) ?_
              refine am_split (fun h10 => ?_) (fun h10 => ?_)
              · skip
                exact am_ri (S := sT_step) (by unfold rT_step; simp only [if_neg h1, if_pos h2, if_neg h3, if_neg h5, if_neg h7, if_pos h9, if_pos h10]; try rfl) (by unfold iT_step aT_step; simp only [if_neg h1, if_pos h2, if_neg h3, if_neg h5, if_neg h7, if_pos h9, if_pos h10]; try rfl) rfl rfl
              · skip
                exact am_ri (S := sT_step) (by unfold rT_step; simp only [if_neg h1, if_pos h2, if_neg h3, if_neg h5, if_neg h7, if_pos h9, if_neg h10]; try rfl) (by unfold iT_step aT_step; simp only [if_neg h1, if_pos h2, if_neg h3, if_neg h5, if_neg h7, if_pos h9, if_neg h10]; try rfl) rfl rfl
            · skip
              refine am_split (fun h11 => ?_) (fun h11 => ?_)
              · skip
                refine am_call (eU_branches_T i a (rP_kindAt_b i a (i 15)) (rP_firstAt_b i a (i 15)) (rP_secondAt_b i a (i 15)) tl) ?_
                refine am_split (fun h12 => ?_) (fun h12 => ?_)
                · skip
                  exact am_ri (S := sT_step) (by unfold rT_step; simp only [if_neg h1, if_pos h2, if_neg h3, if_neg h5, if_neg h7, if_neg h9, if_pos h11, if_pos h12]; try rfl) (by unfold iT_step aT_step; simp only [if_neg h1, if_pos h2, if_neg h3, if_neg h5, if_neg h7, if_neg h9, if_pos h11, if_pos h12]; try rfl) rfl rfl
                · skip
                  exact am_ri (S := sT_step) (by unfold rT_step; simp only [if_neg h1, if_pos h2, if_neg h3, if_neg h5, if_neg h7, if_neg h9, if_pos h11, if_neg h12]; try rfl) (by unfold iT_step aT_step; simp only [if_neg h1, if_pos h2, if_neg h3, if_neg h5, if_neg h7, if_neg h9, if_pos h11, if_neg h12]; try rfl) rfl rfl
              · skip
                refine am_split (fun h13 => ?_) (fun h13 => ?_)
                · skip
                  refine am_call (eP_addressOf_b i a ((i 15) + (1 : Int32)) tl) ?_
                  refine am_call (eU_set_T i a (rP_firstAt_b i a (i 15)) (rP_addressOf_b i a ((i 15) + (1 : Int32))) tl) ?_
                  exact am_ri (S := sT_step) (by unfold rT_step; simp only [if_neg h1, if_pos h2, if_neg h3, if_neg h5, if_neg h7, if_neg h9, if_neg h11, if_pos h13]; try rfl) (by unfold iT_step aT_step; simp only [if_neg h1, if_pos h2, if_neg h3, if_neg h5, if_neg h7, if_neg h9, if_neg h11, if_pos h13]; try rfl) rfl rfl
                · skip
                  refine am_split (fun h14 => ?_) (fun h14 => ?_)
                  · skip
                    refine am_call (eU_get_T i a (rP_secondAt_b i a (i 15)) tl) ?_
                    refine am_call (eP_addressOf_b i a ((i 15) + (1 : Int32)) tl) ?_
                    refine am_call (eT_leap i a (rP_firstAt_b i a (i 15)) (rU_get_T i a (rP_secondAt_b i a (i 15))) (rP_addressOf_b i a ((i 15) + (1 : Int32))) tl  (by assumption)) ?_
                    exact am_ri (S := sT_step) (by unfold rT_step; simp only [if_neg h1, if_pos h2, if_neg h3, if_neg h5, if_neg h7, if_neg h9, if_neg h11, if_neg h13, if_pos h14]; try rfl) (by unfold iT_step aT_step; simp only [if_neg h1, if_pos h2, if_neg h3, if_neg h5, if_neg h7, if_neg h9, if_neg h11, if_neg h13, if_pos h14]; try rfl) rfl rfl
                  · skip
                    refine am_split (fun h15 => ?_) (fun h15 => ?_)
                    · skip
                      refine am_call (eU_compute_T i a (rP_kindAt_b i a (i 15)) (rP_firstAt_b i a (i 15)) (rP_secondAt_b i a (i 15)) (rP_thirdAt_b i a (i 15)) tl) ?_
                      exact am_ri (S := sT_step) (by unfold rT_step; simp only [if_neg h1, if_pos h2, if_neg h3, if_neg h5, if_neg h7, if_neg h9, if_neg h11, if_neg h13, if_neg h14, if_pos h15]; try rfl) (by unfold iT_step aT_step; simp only [if_neg h1, if_pos h2, if_neg h3, if_neg h5, if_neg h7, if_neg h9, if_neg h11, if_neg h13, if_neg h14, if_pos h15]; try rfl) rfl rfl
                    · skip
                      refine am_split (fun h16 => ?_) (fun h16 => ?_)
                      · skip
                        refine am_call (eU_compute_T i a (rP_kindAt_b i a (i 15)) (rP_firstAt_b i a (i 15)) (rP_secondAt_b i a (i 15)) (rP_thirdAt_b i a (i 15)) tl) ?_
                        exact am_ri (S := sT_step) (by unfold rT_step; simp only [if_neg h1, if_pos h2, if_neg h3, if_neg h5, if_neg h7, if_neg h9, if_neg h11, if_neg h13, if_neg h14, if_neg h15, if_pos h16]; try rfl) (by unfold iT_step aT_step; simp only [if_neg h1, if_pos h2, if_neg h3, if_neg h5, if_neg h7, if_neg h9, if_neg h11, if_neg h13, if_neg h14, if_neg h15, if_pos h16]; try rfl) rfl rfl
                      · skip
                        refine am_split (fun h17 => ?_) (fun h17 => ?_)
                        · skip
                          refine am_call (eP_addressOf_b i a ((i 15) + (1 : Int32)) tl) ?_
                          refine am_call (eU_set_T i a (1 : Int32) (rP_addressOf_b i a ((i 15) + (1 : Int32))) tl) ?_
                          refine am_call (eT_serve i (aU_set_T i a (1 : Int32) (rP_addressOf_b i a ((i 15) + (1 : Int32)))) (rP_firstAt_b i a (i 15)) ((i 15) + (1 : Int32)) tl) ?_
                          exact am_ri (S := sT_step) (by unfold rT_step; simp only [if_neg h1, if_pos h2, if_neg h3, if_neg h5, if_neg h7, if_neg h9, if_neg h11, if_neg h13, if_neg h14, if_neg h15, if_neg h16, if_pos h17]; try rfl) (by unfold iT_step aT_step; simp only [if_neg h1, if_pos h2, if_neg h3, if_neg h5, if_neg h7, if_neg h9, if_neg h11, if_neg h13, if_neg h14, if_neg h15, if_neg h16, if_pos h17]; try rfl) rfl rfl
                        · skip
                          refine am_split (fun h18 => ?_) (fun h18 => ?_)
                          · skip
                            refine am_call (eP_addressOf_b i a (rP_secondAt_b i a (i 15)) tl) ?_
                            refine am_call (eU_set_T i a (rP_firstAt_b i a (i 15)) (rP_addressOf_b i a (rP_secondAt_b i a (i 15))) tl) ?_
                            exact am_ri (S := sT_step) (by unfold rT_step; simp only [if_neg h1, if_pos h2, if_neg h3, if_neg h5, if_neg h7, if_neg h9, if_neg h11, if_neg h13, if_neg h14, if_neg h15, if_neg h16, if_neg h17, if_pos h18]; try rfl) (by unfold iT_step aT_step; simp only [if_neg h1, if_pos h2, if_neg h3, if_neg h5, if_neg h7, if_neg h9, if_neg h11, if_neg h13, if_neg h14, if_neg h15, if_neg h16, if_neg h17, if_pos h18]; try rfl) rfl rfl
                          · skip
                            refine am_call (eU_compute_T i a (rP_kindAt_b i a (i 15)) (rP_firstAt_b i a (i 15)) (rP_secondAt_b i a (i 15)) (rP_thirdAt_b i a (i 15)) tl) ?_
                            exact am_ri (S := sT_step) (by unfold rT_step; simp only [if_neg h1, if_pos h2, if_neg h3, if_neg h5, if_neg h7, if_neg h9, if_neg h11, if_neg h13, if_neg h14, if_neg h15, if_neg h16, if_neg h17, if_neg h18]; try rfl) (by unfold iT_step aT_step; simp only [if_neg h1, if_pos h2, if_neg h3, if_neg h5, if_neg h7, if_neg h9, if_neg h11, if_neg h13, if_neg h14, if_neg h15, if_neg h16, if_neg h17, if_neg h18]; try rfl) rfl rfl
    · skip
      exact am_ri (S := sT_step) (by unfold rT_step; simp only [if_neg h1, if_neg h2]; try rfl) (by unfold iT_step aT_step; simp only [if_neg h1, if_neg h2]; try rfl) rfl rfl
end
section
noncomputable def rU_go_M_l : Nat → (Nat → Int32) → (Nat → Nat → Int32) → Int32 → Int32
  | 0, _, _, _ => 0
  | f + 1, i, a, n => if n ≤ (0 : Int32) then (0 : Int32) else if (rM_step i a ) = (0 : Int32) then (rU_go_M_l f (sI (iM_step i a ) (((iM_step i a ) 10) + (1 : Int32)) 10) (aM_step i a ) (n + (-1 : Int32))) else if (rM_step i a ) = (1 : Int32) then (rM_step i a ) else (rM_step i a )
noncomputable def iU_go_M_l : Nat → (Nat → Int32) → (Nat → Nat → Int32) → Int32 → Nat → Int32
  | 0, i, _, _ => i
  | f + 1, i, a, n => if n ≤ (0 : Int32) then i else if (rM_step i a ) = (0 : Int32) then (iU_go_M_l f (sI (iM_step i a ) (((iM_step i a ) 10) + (1 : Int32)) 10) (aM_step i a ) (n + (-1 : Int32))) else if (rM_step i a ) = (1 : Int32) then (sI (iM_step i a ) (((iM_step i a ) 10) + (1 : Int32)) 10) else (iM_step i a )
noncomputable def aU_go_M_l : Nat → (Nat → Int32) → (Nat → Nat → Int32) → Int32 → Nat → Nat → Int32
  | 0, _, a, _ => a
  | f + 1, i, a, n => if n ≤ (0 : Int32) then a else if (rM_step i a ) = (0 : Int32) then (aU_go_M_l f (sI (iM_step i a ) (((iM_step i a ) 10) + (1 : Int32)) 10) (aM_step i a ) (n + (-1 : Int32))) else if (rM_step i a ) = (1 : Int32) then (aM_step i a ) else (aM_step i a )
set_option maxHeartbeats 4000000 in
set_option maxRecDepth 100000 in
theorem tU_go_M_l (tl : List am_Cl) : ∀ (f : Nat) (i : Nat → Int32) (a : Nat → Nat → Int32) (n : Int32), (Int32.toInt n).toNat < f → am_T sU_go (some (.int (rU_go_M_l f i a n))) (wX (iU_go_M_l f i a n) (aU_go_M_l f i a n) tl) 10 [.ref 22, .retAddr 0, .int n, .retAddr 0] [] (wX i a tl) 0 0 := by
  intro f
  induction f with
  | zero => intro i a n hm; exact absurd hm (Nat.not_lt_zero _)
  | succ f ih =>
    intro i a n hm
    refine am_wu_T gdU_go [10] 400 ?_
    refine am_split (fun h1 => ?_) (fun h1 => ?_)
    · skip
      exact am_ri (x := (0 : Int32)) (S := sU_go) (congrArg (fun x => some (Value.int x)) (by rw [rU_go_M_l]; rw [if_pos h1])) (am_w2 (i2 := i) (a2 := a) (by rw [iU_go_M_l]; rw [if_pos h1]) (by rw [aU_go_M_l]; rw [if_pos h1]) rfl) rfl rfl
    · skip
      refine am_callg (eM_step i a  tl) (fun I1 A1 hI1 hA1 => ?_)
      refine am_split (fun h2 => ?_) (fun h2 => ?_)
      · skip
        refine am_split (fun _ => ?_) (fun hz => absurd h2 hz)
        exact am_Tc (am_Tw (ih (sI I1 ((I1 10) + (1 : Int32)) 10) A1 (n + (-1 : Int32)) (ms_dn (by assumption) hm)) ⟨Or.inr rfl, Or.inl rfl, Or.inr rfl, Or.inl rfl, trivial⟩) (congrArg (fun x => some (Value.int x)) (by rw [rU_go_M_l]; (try rw [← hI1]); (try rw [← hA1]); rw [if_neg h1, if_pos h2])) (am_w2 (by rw [iU_go_M_l]; (try rw [← hI1]); (try rw [← hA1]); rw [if_neg h1, if_pos h2]) (by rw [aU_go_M_l]; (try rw [← hI1]); (try rw [← hA1]); rw [if_neg h1, if_pos h2]) rfl)
      · skip
        refine am_split (fun h3 => ?_) (fun h3 => ?_)
        · skip
          refine am_split (fun hz => absurd hz h2) (fun _ => ?_)
          exact am_ri (x := (rM_step i a )) (S := sU_go) (congrArg (fun x => some (Value.int x)) (by rw [rU_go_M_l]; (try rw [← hI1]); (try rw [← hA1]); rw [if_neg h1, if_neg h2, if_pos h3])) (am_w2 (i2 := (sI I1 ((I1 10) + (1 : Int32)) 10)) (a2 := A1) (by rw [iU_go_M_l]; (try rw [← hI1]); (try rw [← hA1]); rw [if_neg h1, if_neg h2, if_pos h3]) (by rw [aU_go_M_l]; (try rw [← hI1]); (try rw [← hA1]); rw [if_neg h1, if_neg h2, if_pos h3]) rfl) rfl rfl
        · skip
          refine am_split (fun hz => absurd hz h2) (fun _ => ?_)
          exact am_ri (x := (rM_step i a )) (S := sU_go) (congrArg (fun x => some (Value.int x)) (by rw [rU_go_M_l]; (try rw [← hI1]); (try rw [← hA1]); rw [if_neg h1, if_neg h2, if_neg h3])) (am_w2 (i2 := I1) (a2 := A1) (by rw [iU_go_M_l]; (try rw [← hI1]); (try rw [← hA1]); rw [if_neg h1, if_neg h2, if_neg h3]) (by rw [aU_go_M_l]; (try rw [← hI1]); (try rw [← hA1]); rw [if_neg h1, if_neg h2, if_neg h3]) rfl) rfl rfl
noncomputable def rU_go_M (i : Nat → Int32) (a : Nat → Nat → Int32) (p : Int32) : Int32 := (rU_go_M_l ((Int32.toInt p).toNat + 1) (iM_begin (iU_forgetAll_M i a ) (aU_forgetAll_M i a ) ) (aM_begin (iU_forgetAll_M i a ) (aU_forgetAll_M i a ) ) p)
noncomputable def iU_go_M (i : Nat → Int32) (a : Nat → Nat → Int32) (p : Int32) : Nat → Int32 := (iU_go_M_l ((Int32.toInt p).toNat + 1) (iM_begin (iU_forgetAll_M i a ) (aU_forgetAll_M i a ) ) (aM_begin (iU_forgetAll_M i a ) (aU_forgetAll_M i a ) ) p)
noncomputable def aU_go_M (i : Nat → Int32) (a : Nat → Nat → Int32) (p : Int32) : Nat → Nat → Int32 := (aU_go_M_l ((Int32.toInt p).toNat + 1) (iM_begin (iU_forgetAll_M i a ) (aU_forgetAll_M i a ) ) (aM_begin (iU_forgetAll_M i a ) (aU_forgetAll_M i a ) ) p)
set_option maxHeartbeats 4000000 in
set_option maxRecDepth 100000 in
theorem eU_go_M (i : Nat → Int32) (a : Nat → Nat → Int32) (p : Int32) (tl : List am_Cl) : am_Ev sU_go [.ref 22, .int p] (wX i a tl) (some (.int (rU_go_M i a p))) (wX (iU_go_M i a p) (aU_go_M i a p) tl) := by
  refine am_Ev_of cwU_go rfl rfl rfl (am_wt_T gdU_go [10] 400 ?_)
  refine am_callg (eU_forgetAll_M i a  tl) (fun I1 A1 hI1 hA1 => ?_)
  refine am_callg (eM_begin I1 A1  tl) (fun I2 A2 hI2 hA2 => ?_)
  exact am_Tc (am_Tw (tU_go_M_l tl ((Int32.toInt p).toNat + 1) I2 A2 p (Nat.lt_add_one _) ) ⟨Or.inr rfl, Or.inl rfl, Or.inr rfl, Or.inl rfl, trivial⟩) (congrArg (fun x => some (Value.int x)) (by unfold rU_go_M; (try rw [← hI1]); (try rw [← hA1]); (try rw [← hI2]); (try rw [← hA2]); first | done | rfl)) (am_w2 (by unfold iU_go_M; (try rw [← hI1]); (try rw [← hA1]); (try rw [← hI2]); (try rw [← hA2]); first | done | rfl) (by unfold aU_go_M; (try rw [← hI1]); (try rw [← hA1]); (try rw [← hI2]); (try rw [← hA2]); first | done | rfl) rfl)
noncomputable def rX_run (i : Nat → Int32) (a : Nat → Nat → Int32) (p : Int32) : Int32 := if (rX_within p (0 : Int32) (2000 : Int32)) = (0 : Int32) then (-1 : Int32) else (rU_go_M i a p)
noncomputable def iX_run (i : Nat → Int32) (a : Nat → Nat → Int32) (p : Int32) : Nat → Int32 := if (rX_within p (0 : Int32) (2000 : Int32)) = (0 : Int32) then i else (iU_go_M i a p)
noncomputable def aX_run (i : Nat → Int32) (a : Nat → Nat → Int32) (p : Int32) : Nat → Nat → Int32 := if (rX_within p (0 : Int32) (2000 : Int32)) = (0 : Int32) then a else (aU_go_M i a p)
set_option maxHeartbeats 4000000 in
set_option maxRecDepth 100000 in
theorem eX_run (i : Nat → Int32) (a : Nat → Nat → Int32) (p : Int32) (tl : List am_Cl) : am_Ev sX_run [.ref 0, .int p] (wX i a tl) (some (.int (rX_run i a p))) (wX (iX_run i a p) (aX_run i a p) tl) := by
  refine am_Ev_of cwX_run rfl rfl rfl (am_wp_T gdX_run 400 ?_)
  refine am_call (eX_within p (0 : Int32) (2000 : Int32) _) ?_
  refine am_split (fun h1 => ?_) (fun h1 => ?_)
  · skip
    exact am_ri (x := (-1 : Int32)) (S := sX_run) (congrArg (fun x => some (Value.int x)) (by unfold rX_run; rw [if_pos h1])) (am_w2 (i2 := i) (a2 := a) (by unfold iX_run; rw [if_pos h1]) (by unfold aX_run; rw [if_pos h1]) rfl) rfl rfl
  · skip
    refine am_callg (eU_go_M i a p tl) (fun I1 A1 hI1 hA1 => ?_)
    exact am_ri (x := (rU_go_M i a p)) (S := sX_run) (congrArg (fun x => some (Value.int x)) (by unfold rX_run; (try rw [← hI1]); (try rw [← hA1]); rw [if_neg h1])) (am_w2 (i2 := I1) (a2 := A1) (by unfold iX_run; (try rw [← hI1]); (try rw [← hA1]); rw [if_neg h1]) (by unfold aX_run; (try rw [← hI1]); (try rw [← hA1]); rw [if_neg h1]) rfl) rfl rfl
end
section
/-! walks by program: the trial -/
theorem frU_readInput_T (i : Nat → Int32) (a : Nat → Nat → Int32) : iU_readInput_T i a 3 = i 3 := by
  unfold iU_readInput_T; repeat' split
  all_goals rfl
theorem frU_writeOutput_T (i : Nat → Int32) (a : Nat → Nat → Int32) : iU_writeOutput_T i a 3 = i 3 := by
  unfold iU_writeOutput_T; repeat' split
  all_goals rfl
theorem frT_serve (i : Nat → Int32) (a : Nat → Nat → Int32) (x y : Int32) : iT_serve i a x y 3 = i 3 := by
  unfold iT_serve; repeat' split
  all_goals first | rfl | exact (sI_ne rfl).trans (frU_readInput_T ..) | exact (sI_ne rfl).trans (frU_writeOutput_T ..)
theorem frT_leap (i : Nat → Int32) (a : Nat → Nat → Int32) (x y z : Int32) : iT_leap i a x y z 3 = i 3 := by
  unfold iT_leap; repeat' split
  all_goals rfl
theorem ite_at {c : Prop} {h : Decidable c} {f g : Nat → Int32} {q : Nat} {v : Int32} (h1 : f q = v) (h2 : g q = v) : (@ite (Nat → Int32) c h f g) q = v := by
  cases h with
  | isTrue z => exact h1
  | isFalse z => exact h2
theorem frT_step (i : Nat → Int32) (a : Nat → Nat → Int32) : iT_step i a 3 = i 3 := by
  unfold iT_step
  repeat' (first | with_reducible refine ite_at ?_ ?_ | with_reducible rfl | with_reducible exact sI_ne rfl | with_reducible exact frT_leap .. | with_reducible exact frT_serve ..)
theorem frT_begin (i : Nat → Int32) (a : Nat → Nat → Int32) : iT_begin i a 3 = i 3 := rfl
theorem frU_fa2 : ∀ (f : Nat) (i : Nat → Int32) (a : Nat → Nat → Int32) (n : Int32), iU_forgetAll_T_2 f i a n 3 = i 3 := by
  intro f
  induction f with
  | zero => intro i a n; rfl
  | succ f ih => intro i a n; rw [iU_forgetAll_T_2]; split; rfl; exact ih ..
theorem frU_fa1 : ∀ (f : Nat) (i : Nat → Int32) (a : Nat → Nat → Int32) (n : Int32), iU_forgetAll_T_1 f i a n 3 = i 3 := by
  intro f
  induction f with
  | zero => intro i a n; rfl
  | succ f ih => intro i a n; rw [iU_forgetAll_T_1]; split; exact frU_fa2 ..; exact ih ..
theorem frU_forgetAll_T (i : Nat → Int32) (a : Nat → Nat → Int32) : iU_forgetAll_T i a 3 = i 3 := by unfold iU_forgetAll_T; exact frU_fa1 ..
noncomputable def rU_go_T_l : Nat → (Nat → Int32) → (Nat → Nat → Int32) → Int32 → Int32
  | 0, _, _, _ => 0
  | f + 1, i, a, n => if n ≤ (0 : Int32) then (0 : Int32) else if (rT_step i a ) = (0 : Int32) then (rU_go_T_l f (sI (iT_step i a ) (((iT_step i a ) 14) + (1 : Int32)) 14) (aT_step i a ) (n + (-1 : Int32))) else if (rT_step i a ) = (1 : Int32) then (rT_step i a ) else (rT_step i a )
noncomputable def iU_go_T_l : Nat → (Nat → Int32) → (Nat → Nat → Int32) → Int32 → Nat → Int32
  | 0, i, _, _ => i
  | f + 1, i, a, n => if n ≤ (0 : Int32) then i else if (rT_step i a ) = (0 : Int32) then (iU_go_T_l f (sI (iT_step i a ) (((iT_step i a ) 14) + (1 : Int32)) 14) (aT_step i a ) (n + (-1 : Int32))) else if (rT_step i a ) = (1 : Int32) then (sI (iT_step i a ) (((iT_step i a ) 14) + (1 : Int32)) 14) else (iT_step i a )
noncomputable def aU_go_T_l : Nat → (Nat → Int32) → (Nat → Nat → Int32) → Int32 → Nat → Nat → Int32
  | 0, _, a, _ => a
  | f + 1, i, a, n => if n ≤ (0 : Int32) then a else if (rT_step i a ) = (0 : Int32) then (aU_go_T_l f (sI (iT_step i a ) (((iT_step i a ) 14) + (1 : Int32)) 14) (aT_step i a ) (n + (-1 : Int32))) else if (rT_step i a ) = (1 : Int32) then (aT_step i a ) else (aT_step i a )
set_option maxHeartbeats 4000000 in
set_option maxRecDepth 100000 in
theorem tU_go_T_l (tl : List am_Cl) : ∀ (f : Nat) (i : Nat → Int32) (a : Nat → Nat → Int32) (n : Int32), (Int32.toInt n).toNat < f → (i 3).toInt ≤ 1000 → am_T sU_go (some (.int (rU_go_T_l f i a n))) (wX (iU_go_T_l f i a n) (aU_go_T_l f i a n) tl) 10 [.ref 26, .retAddr 0, .int n, .retAddr 0] [] (wX i a tl) 0 0 := by
  intro f
  induction f with
  | zero => intro i a n hm; exact absurd hm (Nat.not_lt_zero _)
  | succ f ih =>
    intro i a n hm hc
    refine am_wu_T gdU_go [10] 400 ?_
    refine am_split (fun h1 => ?_) (fun h1 => ?_)
    · skip
      exact am_ri (x := (0 : Int32)) (S := sU_go) (congrArg (fun x => some (Value.int x)) (by rw [rU_go_T_l]; rw [if_pos h1])) (am_w2 (i2 := i) (a2 := a) (by rw [iU_go_T_l]; rw [if_pos h1]) (by rw [aU_go_T_l]; rw [if_pos h1]) rfl) rfl rfl
    · skip
      refine am_callg (eT_step i a  tl  (by assumption)) (fun I1 A1 hI1 hA1 => ?_)
      refine am_split (fun h2 => ?_) (fun h2 => ?_)
      · skip
        refine am_split (fun _ => ?_) (fun hz => absurd h2 hz)
        exact am_Tc (am_Tw (ih (sI I1 ((I1 14) + (1 : Int32)) 14) A1 (n + (-1 : Int32)) (ms_dn (by assumption) hm) (by show Int32.toInt (I1 3) ≤ 1000; rw [hI1, frT_step]; exact hc)) ⟨Or.inr rfl, Or.inl rfl, Or.inr rfl, Or.inl rfl, trivial⟩) (congrArg (fun x => some (Value.int x)) (by rw [rU_go_T_l]; (try rw [← hI1]); (try rw [← hA1]); rw [if_neg h1, if_pos h2])) (am_w2 (by rw [iU_go_T_l]; (try rw [← hI1]); (try rw [← hA1]); rw [if_neg h1, if_pos h2]) (by rw [aU_go_T_l]; (try rw [← hI1]); (try rw [← hA1]); rw [if_neg h1, if_pos h2]) rfl)
      · skip
        refine am_split (fun h3 => ?_) (fun h3 => ?_)
        · skip
          refine am_split (fun hz => absurd hz h2) (fun _ => ?_)
          exact am_ri (x := (rT_step i a )) (S := sU_go) (congrArg (fun x => some (Value.int x)) (by rw [rU_go_T_l]; (try rw [← hI1]); (try rw [← hA1]); rw [if_neg h1, if_neg h2, if_pos h3])) (am_w2 (i2 := (sI I1 ((I1 14) + (1 : Int32)) 14)) (a2 := A1) (by rw [iU_go_T_l]; (try rw [← hI1]); (try rw [← hA1]); rw [if_neg h1, if_neg h2, if_pos h3]) (by rw [aU_go_T_l]; (try rw [← hI1]); (try rw [← hA1]); rw [if_neg h1, if_neg h2, if_pos h3]) rfl) rfl rfl
        · skip
          refine am_split (fun hz => absurd hz h2) (fun _ => ?_)
          exact am_ri (x := (rT_step i a )) (S := sU_go) (congrArg (fun x => some (Value.int x)) (by rw [rU_go_T_l]; (try rw [← hI1]); (try rw [← hA1]); rw [if_neg h1, if_neg h2, if_neg h3])) (am_w2 (i2 := I1) (a2 := A1) (by rw [iU_go_T_l]; (try rw [← hI1]); (try rw [← hA1]); rw [if_neg h1, if_neg h2, if_neg h3]) (by rw [aU_go_T_l]; (try rw [← hI1]); (try rw [← hA1]); rw [if_neg h1, if_neg h2, if_neg h3]) rfl) rfl rfl
noncomputable def rU_go_T (i : Nat → Int32) (a : Nat → Nat → Int32) (p : Int32) : Int32 := (rU_go_T_l ((Int32.toInt p).toNat + 1) (iT_begin (iU_forgetAll_T i a ) (aU_forgetAll_T i a ) ) (aU_forgetAll_T i a ) p)
noncomputable def iU_go_T (i : Nat → Int32) (a : Nat → Nat → Int32) (p : Int32) : Nat → Int32 := (iU_go_T_l ((Int32.toInt p).toNat + 1) (iT_begin (iU_forgetAll_T i a ) (aU_forgetAll_T i a ) ) (aU_forgetAll_T i a ) p)
noncomputable def aU_go_T (i : Nat → Int32) (a : Nat → Nat → Int32) (p : Int32) : Nat → Nat → Int32 := (aU_go_T_l ((Int32.toInt p).toNat + 1) (iT_begin (iU_forgetAll_T i a ) (aU_forgetAll_T i a ) ) (aU_forgetAll_T i a ) p)
set_option maxHeartbeats 4000000 in
set_option maxRecDepth 100000 in
theorem eU_go_T (i : Nat → Int32) (a : Nat → Nat → Int32) (p : Int32) (tl : List am_Cl) (hc : (i 3).toInt ≤ 1000) : am_Ev sU_go [.ref 26, .int p] (wX i a tl) (some (.int (rU_go_T i a p))) (wX (iU_go_T i a p) (aU_go_T i a p) tl) := by
  refine am_Ev_of cwU_go rfl rfl rfl (am_wt_T gdU_go [10] 400 ?_)
  refine am_callg (eU_forgetAll_T i a  tl) (fun I1 A1 hI1 hA1 => ?_)
  refine am_callgi (eT_begin I1 A1  tl) (fun I2 hI2 => ?_)
  exact am_Tc (am_Tw (tU_go_T_l tl ((Int32.toInt p).toNat + 1) I2 A1 p (Nat.lt_add_one _) (by show Int32.toInt (I2 3) ≤ 1000; rw [hI2, frT_begin, hI1, frU_forgetAll_T]; exact hc)) ⟨Or.inr rfl, Or.inl rfl, Or.inr rfl, Or.inl rfl, trivial⟩) (congrArg (fun x => some (Value.int x)) (by unfold rU_go_T; (try rw [← hI1]); (try rw [← hA1]); (try rw [← hI2]); first | done | rfl)) (am_w2 (by unfold iU_go_T; (try rw [← hI1]); (try rw [← hA1]); (try rw [← hI2]); first | done | rfl) (by unfold aU_go_T; (try rw [← hI1]); (try rw [← hA1]); (try rw [← hI2]); first | done | rfl) rfl)
noncomputable def rX_trial (i : Nat → Int32) (a : Nat → Nat → Int32) (p : Int32) : Int32 := if (rX_within p (0 : Int32) (2000 : Int32)) = (0 : Int32) then (-1 : Int32) else (rU_go_T i a p)
noncomputable def iX_trial (i : Nat → Int32) (a : Nat → Nat → Int32) (p : Int32) : Nat → Int32 := if (rX_within p (0 : Int32) (2000 : Int32)) = (0 : Int32) then i else (iU_go_T i a p)
noncomputable def aX_trial (i : Nat → Int32) (a : Nat → Nat → Int32) (p : Int32) : Nat → Nat → Int32 := if (rX_within p (0 : Int32) (2000 : Int32)) = (0 : Int32) then a else (aU_go_T i a p)
set_option maxHeartbeats 4000000 in
set_option maxRecDepth 100000 in
theorem eX_trial (i : Nat → Int32) (a : Nat → Nat → Int32) (p : Int32) (tl : List am_Cl) (hc : (i 3).toInt ≤ 1000) : am_Ev sX_trial [.ref 0, .int p] (wX i a tl) (some (.int (rX_trial i a p))) (wX (iX_trial i a p) (aX_trial i a p) tl) := by
  refine am_Ev_of cwX_trial rfl rfl rfl (am_wp_T gdX_trial 400 ?_)
  refine am_call (eX_within p (0 : Int32) (2000 : Int32) _) ?_
  refine am_split (fun h1 => ?_) (fun h1 => ?_)
  · skip
    exact am_ri (x := (-1 : Int32)) (S := sX_trial) (congrArg (fun x => some (Value.int x)) (by unfold rX_trial; rw [if_pos h1])) (am_w2 (i2 := i) (a2 := a) (by unfold iX_trial; rw [if_pos h1]) (by unfold aX_trial; rw [if_pos h1]) rfl) rfl rfl
  · skip
    refine am_callg (eU_go_T i a p tl  (by assumption)) (fun I1 A1 hI1 hA1 => ?_)
    exact am_ri (x := (rU_go_T i a p)) (S := sX_trial) (congrArg (fun x => some (Value.int x)) (by unfold rX_trial; (try rw [← hI1]); (try rw [← hA1]); rw [if_neg h1])) (am_w2 (i2 := I1) (a2 := A1) (by unfold iX_trial; (try rw [← hI1]); (try rw [← hA1]); rw [if_neg h1]) (by unfold aX_trial; (try rw [← hI1]); (try rw [← hA1]); rw [if_neg h1]) rfl) rfl rfl
end
section
/-! walks by program: the reference's loops -/
theorem ms_k {n : Int32} {f : Nat} (h : ¬ (13 : Int32) ≤ n ∨ ¬ (15 : Int32) ≤ n) (hm : ((15 : Int32).toInt - n.toInt).toNat < f + 1) : ((15 : Int32).toInt - (n + 1).toInt).toNat < f := by
  refine ms_up (M := 15) ?_ hm
  rcases h with h | h
  · rw [le_i] at h ⊢
    have e1 : (13 : Int32).toInt = 13 := rfl
    have e2 : (15 : Int32).toInt = 15 := rfl
    omega
  · exact h
theorem vp_lt {x M : Int32} {N : Nat} (h0 : 0 ≤ x.toInt) (h1 : x.toInt < N) : vp_in x N := by rw [vp_in_iff]; omega
theorem nle {x y : Int32} (h : ¬ x ≤ y) : y.toInt < x.toInt := by rw [le_i] at h; omega
theorem nlt {x y : Int32} (h : ¬ x < y) : y.toInt ≤ x.toInt := by rw [lt_i] at h; omega
noncomputable def rZ_kind_l : Nat → (Nat → Int32) → (Nat → Nat → Int32) → Int32 → Int32 → Int32 → Int32
  | 0, _, _, _, _, _ => 0
  | f + 1, j, c, x, w, n => if (rZ_isLong x) = (0 : Int32) then if (15 : Int32) ≤ n then (-1 : Int32) else if (rZ_fits n (rZ_fieldA n w) (rZ_fieldB n w) (rZ_fieldC n w)) = (0 : Int32) then (rZ_kind_l f j c x w (n + (1 : Int32))) else if (rZ_made n (rZ_fieldA n w) (rZ_fieldB n w) (rZ_fieldC n w)) = w then n else (rZ_kind_l f j c x w (n + (1 : Int32))) else if (13 : Int32) ≤ n then (-1 : Int32) else if (rZ_fits n (rZ_fieldA n w) (rZ_fieldB n w) (rZ_fieldC n w)) = (0 : Int32) then (rZ_kind_l f j c x w (n + (1 : Int32))) else if (rZ_made n (rZ_fieldA n w) (rZ_fieldB n w) (rZ_fieldC n w)) = w then n else (rZ_kind_l f j c x w (n + (1 : Int32)))
set_option maxHeartbeats 4000000 in
set_option maxRecDepth 100000 in
theorem tZ_kind_l (i : Nat → Int32) (a : Nat → Nat → Int32) : ∀ (f : Nat) (j : Nat → Int32) (c : Nat → Nat → Int32) (x w n : Int32), ((15 : Int32).toInt - Int32.toInt n).toNat < f → am_T sZ_kind (some (.int (rZ_kind_l f j c x w n))) (wX i a (wZ j c)) 30 [.ref 30, .int x, .int w, .int n, .retAddr 0, .retAddr 0, .retAddr 0] [] (wX i a (wZ j c)) 0 0 := by
  intro f
  induction f with
  | zero => intro j c x w n hm; exact absurd hm (Nat.not_lt_zero _)
  | succ f ih =>
    intro j c x w n hm
    refine am_wu_T gdZ_kind [30] 400 ?_
    refine am_call (eZ_isLong x _) ?_
    refine am_split (fun h1 => ?_) (fun h1 => ?_)
    · skip
      refine am_split (fun h2 => ?_) (fun h2 => ?_)
      · skip
        exact am_ri (S := sZ_kind) (by simp only [rZ_kind_l, if_pos h1, if_pos h2]; try rfl) rfl rfl rfl
      · skip
        refine am_call (eZ_fieldA n w _) ?_
        refine am_call (eZ_fieldB n w _) ?_
        refine am_call (eZ_fieldC n w _) ?_
        refine am_call (eZ_fits n (rZ_fieldA n w) (rZ_fieldB n w) (rZ_fieldC n w) _) ?_
        refine am_split (fun h3 => ?_) (fun h3 => ?_)
        · skip
          exact am_Tc (am_Tw (ih j c x w (n + (1 : Int32)) (ms_k (by first | exact Or.inl (by assumption) | exact Or.inr (by assumption)) hm)) ⟨Or.inr rfl, Or.inr rfl, Or.inr rfl, Or.inr rfl, Or.inl rfl, Or.inl rfl, Or.inl rfl, trivial⟩) (by simp only [rZ_kind_l, if_pos h1, if_neg h2, if_pos h3]) rfl
        · skip
          refine am_call (eZ_made n (rZ_fieldA n w) (rZ_fieldB n w) (rZ_fieldC n w) _) ?_
          refine am_split (fun h4 => ?_) (fun h4 => ?_)
          · skip
            exact am_ri (S := sZ_kind) (by simp only [rZ_kind_l, if_pos h1, if_neg h2, if_neg h3, if_pos h4]; try rfl) rfl rfl rfl
          · skip
            exact am_Tc (am_Tw (ih j c x w (n + (1 : Int32)) (ms_k (by first | exact Or.inl (by assumption) | exact Or.inr (by assumption)) hm)) ⟨Or.inr rfl, Or.inr rfl, Or.inr rfl, Or.inr rfl, Or.inl rfl, Or.inl rfl, Or.inl rfl, trivial⟩) (by simp only [rZ_kind_l, if_pos h1, if_neg h2, if_neg h3, if_neg h4]) rfl
    · skip
      refine am_split (fun h5 => ?_) (fun h5 => ?_)
      · skip
        exact am_ri (S := sZ_kind) (by simp only [rZ_kind_l, if_neg h1, if_pos h5]; try rfl) rfl rfl rfl
      · skip
        refine am_call (eZ_fieldA n w _) ?_
        refine am_call (eZ_fieldB n w _) ?_
        refine am_call (eZ_fieldC n w _) ?_
        refine am_call (eZ_fits n (rZ_fieldA n w) (rZ_fieldB n w) (rZ_fieldC n w) _) ?_
        refine am_split (fun h6 => ?_) (fun h6 => ?_)
        · skip
          exact am_Tc (am_Tw (ih j c x w (n + (1 : Int32)) (ms_k (by first | exact Or.inl (by assumption) | exact Or.inr (by assumption)) hm)) ⟨Or.inr rfl, Or.inr rfl, Or.inr rfl, Or.inr rfl, Or.inl rfl, Or.inl rfl, Or.inl rfl, trivial⟩) (by simp only [rZ_kind_l, if_neg h1, if_neg h5, if_pos h6]) rfl
        · skip
          refine am_call (eZ_made n (rZ_fieldA n w) (rZ_fieldB n w) (rZ_fieldC n w) _) ?_
          refine am_split (fun h7 => ?_) (fun h7 => ?_)
          · skip
            exact am_ri (S := sZ_kind) (by simp only [rZ_kind_l, if_neg h1, if_neg h5, if_neg h6, if_pos h7]; try rfl) rfl rfl rfl
          · skip
            exact am_Tc (am_Tw (ih j c x w (n + (1 : Int32)) (ms_k (by first | exact Or.inl (by assumption) | exact Or.inr (by assumption)) hm)) ⟨Or.inr rfl, Or.inr rfl, Or.inr rfl, Or.inr rfl, Or.inl rfl, Or.inl rfl, Or.inl rfl, trivial⟩) (by simp only [rZ_kind_l, if_neg h1, if_neg h5, if_neg h6, if_neg h7]) rfl
noncomputable def rZ_kind (j : Nat → Int32) (c : Nat → Nat → Int32) (p : Int32) : Int32 := if (rZ_isLong p) = (0 : Int32) then (rZ_kind_l (((15 : Int32).toInt - Int32.toInt (13 : Int32)).toNat + 1) j c p (p &&& (65535 : Int32)) (13 : Int32)) else (rZ_kind_l (((15 : Int32).toInt - Int32.toInt (0 : Int32)).toNat + 1) j c p p (0 : Int32))
set_option maxHeartbeats 4000000 in
set_option maxRecDepth 100000 in
theorem eZ_kind (j : Nat → Int32) (c : Nat → Nat → Int32) (p : Int32) (i : Nat → Int32) (a : Nat → Nat → Int32) : am_Ev sZ_kind [.ref 30, .int p] (wX i a (wZ j c)) (some (.int (rZ_kind j c p))) (wX i a (wZ j c)) := by
  refine am_Ev_of cwZ_kind rfl rfl rfl (am_wt_T gdZ_kind [30] 400 ?_)
  refine am_call (eZ_isLong p _) ?_
  refine am_split (fun h1 => ?_) (fun h1 => ?_)
  · skip
    refine am_call (eZ_isLong p _) ?_
    refine am_split (fun _ => ?_) (fun hz => absurd h1 hz)
    exact am_Tc (am_Tw (tZ_kind_l i a (((15 : Int32).toInt - Int32.toInt (13 : Int32)).toNat + 1) j c p (p &&& (65535 : Int32)) (13 : Int32) (Nat.lt_add_one _) ) ⟨Or.inr rfl, Or.inr rfl, Or.inr rfl, Or.inr rfl, Or.inl rfl, Or.inl rfl, Or.inl rfl, trivial⟩) (by unfold rZ_kind; simp only [if_pos h1]; try rfl) rfl
  · skip
    refine am_call (eZ_isLong p _) ?_
    refine am_split (fun hz => absurd hz h1) (fun _ => ?_)
    exact am_Tc (am_Tw (tZ_kind_l i a (((15 : Int32).toInt - Int32.toInt (0 : Int32)).toNat + 1) j c p p (0 : Int32) (Nat.lt_add_one _) ) ⟨Or.inr rfl, Or.inr rfl, Or.inr rfl, Or.inr rfl, Or.inl rfl, Or.inl rfl, Or.inl rfl, trivial⟩) (by unfold rZ_kind; simp only [if_neg h1]; try rfl) rfl
noncomputable def rZ_isAimed_l : Nat → (Nat → Int32) → (Nat → Nat → Int32) → Int32 → Int32 → Int32 → Int32
  | 0, _, _, _, _, _ => 0
  | f + 1, j, c, t, x, n => if (j 0) ≤ n then x else if x = (0 : Int32) then if ((c 0) (Int32.toNatClampNeg n)) = (16 : Int32) then if ((c 2) (Int32.toNatClampNeg n)) = t then (rZ_isAimed_l f j c t (1 : Int32) (n + (1 : Int32))) else (rZ_isAimed_l f j c t (0 : Int32) (n + (1 : Int32))) else (rZ_isAimed_l f j c t (0 : Int32) (n + (1 : Int32))) else (rZ_isAimed_l f j c t (1 : Int32) (n + (1 : Int32)))
set_option maxHeartbeats 4000000 in
set_option maxRecDepth 100000 in
theorem tZ_isAimed_l (i : Nat → Int32) (a : Nat → Nat → Int32) : ∀ (f : Nat) (j : Nat → Int32) (c : Nat → Nat → Int32) (t x n : Int32), (Int32.toInt (j 0) - Int32.toInt n).toNat < f → 0 ≤ n.toInt ∧ (j 0).toInt ≤ 20 ∧ (x = 0 ∨ x = 1) → am_T sZ_isAimed (some (.int (rZ_isAimed_l f j c t x n))) (wX i a (wZ j c)) 4 [.ref 30, .int t, .int x, .int n] [] (wX i a (wZ j c)) 0 0 := by
  intro f
  induction f with
  | zero => intro j c t x n hm; exact absurd hm (Nat.not_lt_zero _)
  | succ f ih =>
    intro j c t x n hm hp
    refine am_wu_T gdZ_isAimed [4] 400 ?_
    refine am_split (fun h1 => ?_) (fun h1 => ?_)
    · skip
      exact am_ri (S := sZ_isAimed) (by simp only [rZ_isAimed_l, if_pos h1]; try rfl) rfl rfl (am_nz hp.2.2)
    · skip
      refine am_split (fun h2 => ?_) (fun h2 => ?_)
      · skip
        refine And.intro (by exact vp_nn hp.1 (by assumption) hp.2.1) ?_
        refine am_split (fun h3 => ?_) (fun h3 => ?_)
        · skip
          refine And.intro (by exact vp_nn hp.1 (by assumption) hp.2.1) ?_
          refine am_split (fun h4 => ?_) (fun h4 => ?_)
          · skip
            exact am_Tc (am_Tw (ih j c t (1 : Int32) (n + (1 : Int32)) (ms_up (by assumption) hm) ⟨nn_up hp.1 (by assumption), hp.2.1, by first | exact hp.2.2 | exact Or.inl rfl | exact Or.inr rfl⟩) ⟨Or.inr rfl, Or.inr rfl, Or.inr rfl, Or.inr rfl, trivial⟩) (by simp only [rZ_isAimed_l, if_neg h1, if_pos h2, if_pos h3, if_pos h4]) rfl
          · skip
            exact am_Tc (am_Tw (ih j c t (0 : Int32) (n + (1 : Int32)) (ms_up (by assumption) hm) ⟨nn_up hp.1 (by assumption), hp.2.1, by first | exact hp.2.2 | exact Or.inl rfl | exact Or.inr rfl⟩) ⟨Or.inr rfl, Or.inr rfl, Or.inr rfl, Or.inr rfl, trivial⟩) (by simp only [rZ_isAimed_l, if_neg h1, if_pos h2, if_pos h3, if_neg h4]) rfl
        · skip
          exact am_Tc (am_Tw (ih j c t (0 : Int32) (n + (1 : Int32)) (ms_up (by assumption) hm) ⟨nn_up hp.1 (by assumption), hp.2.1, by first | exact hp.2.2 | exact Or.inl rfl | exact Or.inr rfl⟩) ⟨Or.inr rfl, Or.inr rfl, Or.inr rfl, Or.inr rfl, trivial⟩) (by simp only [rZ_isAimed_l, if_neg h1, if_pos h2, if_neg h3]) rfl
      · skip
        exact am_Tc (am_Tw (ih j c t (1 : Int32) (n + (1 : Int32)) (ms_up (by assumption) hm) ⟨nn_up hp.1 (by assumption), hp.2.1, by first | exact hp.2.2 | exact Or.inl rfl | exact Or.inr rfl⟩) ⟨Or.inr rfl, Or.inr rfl, Or.inr rfl, Or.inr rfl, trivial⟩) (by simp only [rZ_isAimed_l, if_neg h1, if_neg h2]) rfl
noncomputable def rZ_isAimed (j : Nat → Int32) (c : Nat → Nat → Int32) (p : Int32) : Int32 := (rZ_isAimed_l ((Int32.toInt (j 0) - Int32.toInt (0 : Int32)).toNat + 1) j c p (0 : Int32) (0 : Int32))
set_option maxHeartbeats 4000000 in
set_option maxRecDepth 100000 in
theorem eZ_isAimed (j : Nat → Int32) (c : Nat → Nat → Int32) (p : Int32) (i : Nat → Int32) (a : Nat → Nat → Int32) (hl : (j 0).toInt ≤ 20) : am_Ev sZ_isAimed [.ref 30, .int p] (wX i a (wZ j c)) (some (.int (rZ_isAimed j c p))) (wX i a (wZ j c)) := by
  refine am_Ev_of cwZ_isAimed rfl rfl rfl (am_wt_T gdZ_isAimed [4] 400 ?_)
  exact am_Tc (am_Tw (tZ_isAimed_l i a ((Int32.toInt (j 0) - Int32.toInt (0 : Int32)).toNat + 1) j c p (0 : Int32) (0 : Int32) (Nat.lt_add_one _) ⟨by decide, hl, Or.inl rfl⟩) ⟨Or.inr rfl, Or.inr rfl, Or.inr rfl, Or.inr rfl, trivial⟩) (by unfold rZ_isAimed; rfl) rfl
noncomputable def rZ_layOut_l : Nat → (Nat → Int32) → (Nat → Nat → Int32) → Int32 → Int32 → Int32
  | 0, _, _, _, _ => 0
  | f + 1, j, c, t, n => if (j 0) < n then ((t + (16 : Int32)) - (t - t / (16 : Int32) * (16 : Int32))) else if (rZ_isAimed j c n) = (0 : Int32) then if (j 0) ≤ n then (rZ_layOut_l f j (sA c (upd (c 10) (Int32.toNatClampNeg n) (t + (0 : Int32))) 10) (t + (0 : Int32)) (n + (1 : Int32))) else if (rZ_ends j (sA c (upd (c 10) (Int32.toNatClampNeg n) (t + (0 : Int32))) 10) n) = (0 : Int32) then if (((t + (0 : Int32)) - (t + (0 : Int32)) / (16 : Int32) * (16 : Int32)) + (rZ_sizeOf j (sA c (upd (c 10) (Int32.toNatClampNeg n) (t + (0 : Int32))) 10) n)) ≤ (16 : Int32) then (rZ_layOut_l f j (sA (sA c (upd (c 10) (Int32.toNatClampNeg n) (t + (0 : Int32))) 10) (upd (c 9) (Int32.toNatClampNeg n) ((t + (0 : Int32)) + (0 : Int32))) 9) (((t + (0 : Int32)) + (0 : Int32)) + (rZ_sizeOf j (sA c (upd (c 10) (Int32.toNatClampNeg n) (t + (0 : Int32))) 10) n)) (n + (1 : Int32))) else (rZ_layOut_l f j (sA (sA c (upd (c 10) (Int32.toNatClampNeg n) (t + (0 : Int32))) 10) (upd (c 9) (Int32.toNatClampNeg n) ((t + (0 : Int32)) + (rZ_rest (t + (0 : Int32))))) 9) (((t + (0 : Int32)) + (rZ_rest (t + (0 : Int32)))) + (rZ_sizeOf j (sA c (upd (c 10) (Int32.toNatClampNeg n) (t + (0 : Int32))) 10) n)) (n + (1 : Int32))) else (rZ_layOut_l f j (sA (sA c (upd (c 10) (Int32.toNatClampNeg n) (t + (0 : Int32))) 10) (upd (c 9) (Int32.toNatClampNeg n) ((t + (0 : Int32)) + (rZ_rest ((t + (0 : Int32)) + (rZ_sizeOf j (sA c (upd (c 10) (Int32.toNatClampNeg n) (t + (0 : Int32))) 10) n))))) 9) (((t + (0 : Int32)) + (rZ_rest ((t + (0 : Int32)) + (rZ_sizeOf j (sA c (upd (c 10) (Int32.toNatClampNeg n) (t + (0 : Int32))) 10) n)))) + (rZ_sizeOf j (sA c (upd (c 10) (Int32.toNatClampNeg n) (t + (0 : Int32))) 10) n)) (n + (1 : Int32))) else if (j 0) ≤ n then (rZ_layOut_l f j (sA c (upd (c 10) (Int32.toNatClampNeg n) (t + (rZ_rest t))) 10) (t + (rZ_rest t)) (n + (1 : Int32))) else if (rZ_ends j (sA c (upd (c 10) (Int32.toNatClampNeg n) (t + (rZ_rest t))) 10) n) = (0 : Int32) then if (((t + (rZ_rest t)) - (t + (rZ_rest t)) / (16 : Int32) * (16 : Int32)) + (rZ_sizeOf j (sA c (upd (c 10) (Int32.toNatClampNeg n) (t + (rZ_rest t))) 10) n)) ≤ (16 : Int32) then (rZ_layOut_l f j (sA (sA c (upd (c 10) (Int32.toNatClampNeg n) (t + (rZ_rest t))) 10) (upd (c 9) (Int32.toNatClampNeg n) ((t + (rZ_rest t)) + (0 : Int32))) 9) (((t + (rZ_rest t)) + (0 : Int32)) + (rZ_sizeOf j (sA c (upd (c 10) (Int32.toNatClampNeg n) (t + (rZ_rest t))) 10) n)) (n + (1 : Int32))) else (rZ_layOut_l f j (sA (sA c (upd (c 10) (Int32.toNatClampNeg n) (t + (rZ_rest t))) 10) (upd (c 9) (Int32.toNatClampNeg n) ((t + (rZ_rest t)) + (rZ_rest (t + (rZ_rest t))))) 9) (((t + (rZ_rest t)) + (rZ_rest (t + (rZ_rest t)))) + (rZ_sizeOf j (sA c (upd (c 10) (Int32.toNatClampNeg n) (t + (rZ_rest t))) 10) n)) (n + (1 : Int32))) else (rZ_layOut_l f j (sA (sA c (upd (c 10) (Int32.toNatClampNeg n) (t + (rZ_rest t))) 10) (upd (c 9) (Int32.toNatClampNeg n) ((t + (rZ_rest t)) + (rZ_rest ((t + (rZ_rest t)) + (rZ_sizeOf j (sA c (upd (c 10) (Int32.toNatClampNeg n) (t + (rZ_rest t))) 10) n))))) 9) (((t + (rZ_rest t)) + (rZ_rest ((t + (rZ_rest t)) + (rZ_sizeOf j (sA c (upd (c 10) (Int32.toNatClampNeg n) (t + (rZ_rest t))) 10) n)))) + (rZ_sizeOf j (sA c (upd (c 10) (Int32.toNatClampNeg n) (t + (rZ_rest t))) 10) n)) (n + (1 : Int32)))
noncomputable def aZ_layOut_l : Nat → (Nat → Int32) → (Nat → Nat → Int32) → Int32 → Int32 → Nat → Nat → Int32
  | 0, _, c, _, _ => c
  | f + 1, j, c, t, n => if (j 0) < n then c else if (rZ_isAimed j c n) = (0 : Int32) then if (j 0) ≤ n then (aZ_layOut_l f j (sA c (upd (c 10) (Int32.toNatClampNeg n) (t + (0 : Int32))) 10) (t + (0 : Int32)) (n + (1 : Int32))) else if (rZ_ends j (sA c (upd (c 10) (Int32.toNatClampNeg n) (t + (0 : Int32))) 10) n) = (0 : Int32) then if (((t + (0 : Int32)) - (t + (0 : Int32)) / (16 : Int32) * (16 : Int32)) + (rZ_sizeOf j (sA c (upd (c 10) (Int32.toNatClampNeg n) (t + (0 : Int32))) 10) n)) ≤ (16 : Int32) then (aZ_layOut_l f j (sA (sA c (upd (c 10) (Int32.toNatClampNeg n) (t + (0 : Int32))) 10) (upd (c 9) (Int32.toNatClampNeg n) ((t + (0 : Int32)) + (0 : Int32))) 9) (((t + (0 : Int32)) + (0 : Int32)) + (rZ_sizeOf j (sA c (upd (c 10) (Int32.toNatClampNeg n) (t + (0 : Int32))) 10) n)) (n + (1 : Int32))) else (aZ_layOut_l f j (sA (sA c (upd (c 10) (Int32.toNatClampNeg n) (t + (0 : Int32))) 10) (upd (c 9) (Int32.toNatClampNeg n) ((t + (0 : Int32)) + (rZ_rest (t + (0 : Int32))))) 9) (((t + (0 : Int32)) + (rZ_rest (t + (0 : Int32)))) + (rZ_sizeOf j (sA c (upd (c 10) (Int32.toNatClampNeg n) (t + (0 : Int32))) 10) n)) (n + (1 : Int32))) else (aZ_layOut_l f j (sA (sA c (upd (c 10) (Int32.toNatClampNeg n) (t + (0 : Int32))) 10) (upd (c 9) (Int32.toNatClampNeg n) ((t + (0 : Int32)) + (rZ_rest ((t + (0 : Int32)) + (rZ_sizeOf j (sA c (upd (c 10) (Int32.toNatClampNeg n) (t + (0 : Int32))) 10) n))))) 9) (((t + (0 : Int32)) + (rZ_rest ((t + (0 : Int32)) + (rZ_sizeOf j (sA c (upd (c 10) (Int32.toNatClampNeg n) (t + (0 : Int32))) 10) n)))) + (rZ_sizeOf j (sA c (upd (c 10) (Int32.toNatClampNeg n) (t + (0 : Int32))) 10) n)) (n + (1 : Int32))) else if (j 0) ≤ n then (aZ_layOut_l f j (sA c (upd (c 10) (Int32.toNatClampNeg n) (t + (rZ_rest t))) 10) (t + (rZ_rest t)) (n + (1 : Int32))) else if (rZ_ends j (sA c (upd (c 10) (Int32.toNatClampNeg n) (t + (rZ_rest t))) 10) n) = (0 : Int32) then if (((t + (rZ_rest t)) - (t + (rZ_rest t)) / (16 : Int32) * (16 : Int32)) + (rZ_sizeOf j (sA c (upd (c 10) (Int32.toNatClampNeg n) (t + (rZ_rest t))) 10) n)) ≤ (16 : Int32) then (aZ_layOut_l f j (sA (sA c (upd (c 10) (Int32.toNatClampNeg n) (t + (rZ_rest t))) 10) (upd (c 9) (Int32.toNatClampNeg n) ((t + (rZ_rest t)) + (0 : Int32))) 9) (((t + (rZ_rest t)) + (0 : Int32)) + (rZ_sizeOf j (sA c (upd (c 10) (Int32.toNatClampNeg n) (t + (rZ_rest t))) 10) n)) (n + (1 : Int32))) else (aZ_layOut_l f j (sA (sA c (upd (c 10) (Int32.toNatClampNeg n) (t + (rZ_rest t))) 10) (upd (c 9) (Int32.toNatClampNeg n) ((t + (rZ_rest t)) + (rZ_rest (t + (rZ_rest t))))) 9) (((t + (rZ_rest t)) + (rZ_rest (t + (rZ_rest t)))) + (rZ_sizeOf j (sA c (upd (c 10) (Int32.toNatClampNeg n) (t + (rZ_rest t))) 10) n)) (n + (1 : Int32))) else (aZ_layOut_l f j (sA (sA c (upd (c 10) (Int32.toNatClampNeg n) (t + (rZ_rest t))) 10) (upd (c 9) (Int32.toNatClampNeg n) ((t + (rZ_rest t)) + (rZ_rest ((t + (rZ_rest t)) + (rZ_sizeOf j (sA c (upd (c 10) (Int32.toNatClampNeg n) (t + (rZ_rest t))) 10) n))))) 9) (((t + (rZ_rest t)) + (rZ_rest ((t + (rZ_rest t)) + (rZ_sizeOf j (sA c (upd (c 10) (Int32.toNatClampNeg n) (t + (rZ_rest t))) 10) n)))) + (rZ_sizeOf j (sA c (upd (c 10) (Int32.toNatClampNeg n) (t + (rZ_rest t))) 10) n)) (n + (1 : Int32)))
set_option maxHeartbeats 4000000 in
set_option maxRecDepth 100000 in
theorem tZ_layOut_l (i : Nat → Int32) (a : Nat → Nat → Int32) : ∀ (f : Nat) (j : Nat → Int32) (c : Nat → Nat → Int32) (t n : Int32), (Int32.toInt (j 0) + 1 - Int32.toInt n).toNat < f → 0 ≤ n.toInt ∧ (j 0).toInt ≤ 20 → am_T sZ_layOut (some (.int (rZ_layOut_l f j c t n))) (wX i a (wZ j (aZ_layOut_l f j c t n))) 5 [.ref 30, .int t, .int n, .retAddr 0] [] (wX i a (wZ j c)) 0 0 := by
  intro f
  induction f with
  | zero => intro j c t n hm; exact absurd hm (Nat.not_lt_zero _)
  | succ f ih =>
    intro j c t n hm hp
    refine am_wu_T gdZ_layOut [5] 400 ?_
    refine am_split (fun h1 => ?_) (fun h1 => ?_)
    · skip
      exact am_ri (S := sZ_layOut) (by simp only [rZ_layOut_l, if_pos h1]; try rfl) (by simp only [aZ_layOut_l, if_pos h1]; try rfl) rfl rfl
    · skip
      refine am_call (eZ_isAimed j c n i a  (by first | exact hp.2 | exact vp_nn hp.1 (by assumption) hp.2)) ?_
      refine am_split (fun h2 => ?_) (fun h2 => ?_)
      · skip
        refine And.intro (by first | exact vp_nn hp.1 (by assumption) hp.2 | (have h9 := nlt (y := n) (by assumption); rw [vp_in_iff]; omega)) ?_
        refine am_split (fun h3 => ?_) (fun h3 => ?_)
        · skip
          exact am_Tc (am_Tw (ih j (sA c (upd (c 10) (Int32.toNatClampNeg n) (t + (0 : Int32))) 10) (t + (0 : Int32)) (n + (1 : Int32)) (ms_ule (by assumption) (by omega) hm) ⟨by have h0 := hp.1; have h9 := hp.2; have h8 := nlt (y := n) (by assumption); rw [add_i (by rw [show (1 : Int32).toInt = 1 from rfl]; omega) (by rw [show (1 : Int32).toInt = 1 from rfl]; omega), show (1 : Int32).toInt = 1 from rfl]; omega, hp.2⟩) ⟨Or.inr rfl, Or.inr rfl, Or.inr rfl, Or.inl rfl, trivial⟩) (by simp only [rZ_layOut_l, if_neg h1, if_pos h2, if_pos h3]) (by simp only [aZ_layOut_l, if_neg h1, if_pos h2, if_pos h3])
        · skip
          refine am_call (eZ_sizeOf j (sA c (upd (c 10) (Int32.toNatClampNeg n) (t + (0 : Int32))) 10) n i a  (by first | exact hp.2 | exact vp_nn hp.1 (by assumption) hp.2)) ?_
          refine am_call (eZ_ends j (sA c (upd (c 10) (Int32.toNatClampNeg n) (t + (0 : Int32))) 10) n i a  (by first | exact hp.2 | exact vp_nn hp.1 (by assumption) hp.2)) ?_
          refine am_split (fun h4 => ?_) (fun h4 => ?_)
          · skip
            refine am_split (fun h5 => ?_) (fun h5 => ?_)
            · skip
              refine And.intro (by first | exact vp_nn hp.1 (by assumption) hp.2 | (have h9 := nlt (y := n) (by assumption); rw [vp_in_iff]; omega)) ?_
              exact am_Tc (am_Tw (ih j (sA (sA c (upd (c 10) (Int32.toNatClampNeg n) (t + (0 : Int32))) 10) (upd (c 9) (Int32.toNatClampNeg n) ((t + (0 : Int32)) + (0 : Int32))) 9) (((t + (0 : Int32)) + (0 : Int32)) + (rZ_sizeOf j (sA c (upd (c 10) (Int32.toNatClampNeg n) (t + (0 : Int32))) 10) n)) (n + (1 : Int32)) (ms_ule (by assumption) (by omega) hm) ⟨by have h0 := hp.1; have h9 := hp.2; have h8 := nlt (y := n) (by assumption); rw [add_i (by rw [show (1 : Int32).toInt = 1 from rfl]; omega) (by rw [show (1 : Int32).toInt = 1 from rfl]; omega), show (1 : Int32).toInt = 1 from rfl]; omega, hp.2⟩) ⟨Or.inr rfl, Or.inr rfl, Or.inr rfl, Or.inl rfl, trivial⟩) (by simp only [rZ_layOut_l, if_neg h1, if_pos h2, if_neg h3, if_pos h4, if_pos h5]) (by simp only [aZ_layOut_l, if_neg h1, if_pos h2, if_neg h3, if_pos h4, if_pos h5])
            · skip
              refine am_call (eZ_rest (t + (0 : Int32)) _) ?_
              refine And.intro (by first | exact vp_nn hp.1 (by assumption) hp.2 | (have h9 := nlt (y := n) (by assumption); rw [vp_in_iff]; omega)) ?_
              exact am_Tc (am_Tw (ih j (sA (sA c (upd (c 10) (Int32.toNatClampNeg n) (t + (0 : Int32))) 10) (upd (c 9) (Int32.toNatClampNeg n) ((t + (0 : Int32)) + (rZ_rest (t + (0 : Int32))))) 9) (((t + (0 : Int32)) + (rZ_rest (t + (0 : Int32)))) + (rZ_sizeOf j (sA c (upd (c 10) (Int32.toNatClampNeg n) (t + (0 : Int32))) 10) n)) (n + (1 : Int32)) (ms_ule (by assumption) (by omega) hm) ⟨by have h0 := hp.1; have h9 := hp.2; have h8 := nlt (y := n) (by assumption); rw [add_i (by rw [show (1 : Int32).toInt = 1 from rfl]; omega) (by rw [show (1 : Int32).toInt = 1 from rfl]; omega), show (1 : Int32).toInt = 1 from rfl]; omega, hp.2⟩) ⟨Or.inr rfl, Or.inr rfl, Or.inr rfl, Or.inl rfl, trivial⟩) (by simp only [rZ_layOut_l, if_neg h1, if_pos h2, if_neg h3, if_pos h4, if_neg h5]) (by simp only [aZ_layOut_l, if_neg h1, if_pos h2, if_neg h3, if_pos h4, if_neg h5])
          · skip
            refine am_call (eZ_rest ((t + (0 : Int32)) + (rZ_sizeOf j (sA c (upd (c 10) (Int32.toNatClampNeg n) (t + (0 : Int32))) 10) n)) _) ?_
            refine And.intro (by first | exact vp_nn hp.1 (by assumption) hp.2 | (have h9 := nlt (y := n) (by assumption); rw [vp_in_iff]; omega)) ?_
            exact am_Tc (am_Tw (ih j (sA (sA c (upd (c 10) (Int32.toNatClampNeg n) (t + (0 : Int32))) 10) (upd (c 9) (Int32.toNatClampNeg n) ((t + (0 : Int32)) + (rZ_rest ((t + (0 : Int32)) + (rZ_sizeOf j (sA c (upd (c 10) (Int32.toNatClampNeg n) (t + (0 : Int32))) 10) n))))) 9) (((t + (0 : Int32)) + (rZ_rest ((t + (0 : Int32)) + (rZ_sizeOf j (sA c (upd (c 10) (Int32.toNatClampNeg n) (t + (0 : Int32))) 10) n)))) + (rZ_sizeOf j (sA c (upd (c 10) (Int32.toNatClampNeg n) (t + (0 : Int32))) 10) n)) (n + (1 : Int32)) (ms_ule (by assumption) (by omega) hm) ⟨by have h0 := hp.1; have h9 := hp.2; have h8 := nlt (y := n) (by assumption); rw [add_i (by rw [show (1 : Int32).toInt = 1 from rfl]; omega) (by rw [show (1 : Int32).toInt = 1 from rfl]; omega), show (1 : Int32).toInt = 1 from rfl]; omega, hp.2⟩) ⟨Or.inr rfl, Or.inr rfl, Or.inr rfl, Or.inl rfl, trivial⟩) (by simp only [rZ_layOut_l, if_neg h1, if_pos h2, if_neg h3, if_neg h4]) (by simp only [aZ_layOut_l, if_neg h1, if_pos h2, if_neg h3, if_neg h4])
      · skip
        refine am_call (eZ_rest t _) ?_
        refine And.intro (by first | exact vp_nn hp.1 (by assumption) hp.2 | (have h9 := nlt (y := n) (by assumption); rw [vp_in_iff]; omega)) ?_
        refine am_split (fun h6 => ?_) (fun h6 => ?_)
        · skip
          exact am_Tc (am_Tw (ih j (sA c (upd (c 10) (Int32.toNatClampNeg n) (t + (rZ_rest t))) 10) (t + (rZ_rest t)) (n + (1 : Int32)) (ms_ule (by assumption) (by omega) hm) ⟨by have h0 := hp.1; have h9 := hp.2; have h8 := nlt (y := n) (by assumption); rw [add_i (by rw [show (1 : Int32).toInt = 1 from rfl]; omega) (by rw [show (1 : Int32).toInt = 1 from rfl]; omega), show (1 : Int32).toInt = 1 from rfl]; omega, hp.2⟩) ⟨Or.inr rfl, Or.inr rfl, Or.inr rfl, Or.inl rfl, trivial⟩) (by simp only [rZ_layOut_l, if_neg h1, if_neg h2, if_pos h6]) (by simp only [aZ_layOut_l, if_neg h1, if_neg h2, if_pos h6])
        · skip
          refine am_call (eZ_sizeOf j (sA c (upd (c 10) (Int32.toNatClampNeg n) (t + (rZ_rest t))) 10) n i a  (by first | exact hp.2 | exact vp_nn hp.1 (by assumption) hp.2)) ?_
          refine am_call (eZ_ends j (sA c (upd (c 10) (Int32.toNatClampNeg n) (t + (rZ_rest t))) 10) n i a  (by first | exact hp.2 | exact vp_nn hp.1 (by assumption) hp.2)) ?_
          refine am_split (fun h7 => ?_) (fun h7 => ?_)
          · skip
            refine am_split (fun h8 => ?_) (fun h8 => ?_)
            · skip
              refine And.intro (by first | exact vp_nn hp.1 (by assumption) hp.2 | (have h9 := nlt (y := n) (by assumption); rw [vp_in_iff]; omega)) ?_
              exact am_Tc (am_Tw (ih j (sA (sA c (upd (c 10) (Int32.toNatClampNeg n) (t + (rZ_rest t))) 10) (upd (c 9) (Int32.toNatClampNeg n) ((t + (rZ_rest t)) + (0 : Int32))) 9) (((t + (rZ_rest t)) + (0 : Int32)) + (rZ_sizeOf j (sA c (upd (c 10) (Int32.toNatClampNeg n) (t + (rZ_rest t))) 10) n)) (n + (1 : Int32)) (ms_ule (by assumption) (by omega) hm) ⟨by have h0 := hp.1; have h9 := hp.2; have h8 := nlt (y := n) (by assumption); rw [add_i (by rw [show (1 : Int32).toInt = 1 from rfl]; omega) (by rw [show (1 : Int32).toInt = 1 from rfl]; omega), show (1 : Int32).toInt = 1 from rfl]; omega, hp.2⟩) ⟨Or.inr rfl, Or.inr rfl, Or.inr rfl, Or.inl rfl, trivial⟩) (by simp only [rZ_layOut_l, if_neg h1, if_neg h2, if_neg h6, if_pos h7, if_pos h8]) (by simp only [aZ_layOut_l, if_neg h1, if_neg h2, if_neg h6, if_pos h7, if_pos h8])
            · skip
              refine am_call (eZ_rest (t + (rZ_rest t)) _) ?_
              refine And.intro (by first | exact vp_nn hp.1 (by assumption) hp.2 | (have h9 := nlt (y := n) (by assumption); rw [vp_in_iff]; omega)) ?_
              exact am_Tc (am_Tw (ih j (sA (sA c (upd (c 10) (Int32.toNatClampNeg n) (t + (rZ_rest t))) 10) (upd (c 9) (Int32.toNatClampNeg n) ((t + (rZ_rest t)) + (rZ_rest (t + (rZ_rest t))))) 9) (((t + (rZ_rest t)) + (rZ_rest (t + (rZ_rest t)))) + (rZ_sizeOf j (sA c (upd (c 10) (Int32.toNatClampNeg n) (t + (rZ_rest t))) 10) n)) (n + (1 : Int32)) (ms_ule (by assumption) (by omega) hm) ⟨by have h0 := hp.1; have h9 := hp.2; have h8 := nlt (y := n) (by assumption); rw [add_i (by rw [show (1 : Int32).toInt = 1 from rfl]; omega) (by rw [show (1 : Int32).toInt = 1 from rfl]; omega), show (1 : Int32).toInt = 1 from rfl]; omega, hp.2⟩) ⟨Or.inr rfl, Or.inr rfl, Or.inr rfl, Or.inl rfl, trivial⟩) (by simp only [rZ_layOut_l, if_neg h1, if_neg h2, if_neg h6, if_pos h7, if_neg h8]) (by simp only [aZ_layOut_l, if_neg h1, if_neg h2, if_neg h6, if_pos h7, if_neg h8])
          · skip
            refine am_call (eZ_rest ((t + (rZ_rest t)) + (rZ_sizeOf j (sA c (upd (c 10) (Int32.toNatClampNeg n) (t + (rZ_rest t))) 10) n)) _) ?_
            refine And.intro (by first | exact vp_nn hp.1 (by assumption) hp.2 | (have h9 := nlt (y := n) (by assumption); rw [vp_in_iff]; omega)) ?_
            exact am_Tc (am_Tw (ih j (sA (sA c (upd (c 10) (Int32.toNatClampNeg n) (t + (rZ_rest t))) 10) (upd (c 9) (Int32.toNatClampNeg n) ((t + (rZ_rest t)) + (rZ_rest ((t + (rZ_rest t)) + (rZ_sizeOf j (sA c (upd (c 10) (Int32.toNatClampNeg n) (t + (rZ_rest t))) 10) n))))) 9) (((t + (rZ_rest t)) + (rZ_rest ((t + (rZ_rest t)) + (rZ_sizeOf j (sA c (upd (c 10) (Int32.toNatClampNeg n) (t + (rZ_rest t))) 10) n)))) + (rZ_sizeOf j (sA c (upd (c 10) (Int32.toNatClampNeg n) (t + (rZ_rest t))) 10) n)) (n + (1 : Int32)) (ms_ule (by assumption) (by omega) hm) ⟨by have h0 := hp.1; have h9 := hp.2; have h8 := nlt (y := n) (by assumption); rw [add_i (by rw [show (1 : Int32).toInt = 1 from rfl]; omega) (by rw [show (1 : Int32).toInt = 1 from rfl]; omega), show (1 : Int32).toInt = 1 from rfl]; omega, hp.2⟩) ⟨Or.inr rfl, Or.inr rfl, Or.inr rfl, Or.inl rfl, trivial⟩) (by simp only [rZ_layOut_l, if_neg h1, if_neg h2, if_neg h6, if_neg h7]) (by simp only [aZ_layOut_l, if_neg h1, if_neg h2, if_neg h6, if_neg h7])
noncomputable def rZ_layOut (j : Nat → Int32) (c : Nat → Nat → Int32) : Int32 := (rZ_layOut_l ((Int32.toInt (j 0) + 1 - Int32.toInt (0 : Int32)).toNat + 1) j c (48 : Int32) (0 : Int32))
noncomputable def aZ_layOut (j : Nat → Int32) (c : Nat → Nat → Int32) : Nat → Nat → Int32 := (aZ_layOut_l ((Int32.toInt (j 0) + 1 - Int32.toInt (0 : Int32)).toNat + 1) j c (48 : Int32) (0 : Int32))
set_option maxHeartbeats 4000000 in
set_option maxRecDepth 100000 in
theorem eZ_layOut (j : Nat → Int32) (c : Nat → Nat → Int32) (i : Nat → Int32) (a : Nat → Nat → Int32) (hl : (j 0).toInt ≤ 20) : am_Ev sZ_layOut [.ref 30] (wX i a (wZ j c)) (some (.int (rZ_layOut j c ))) (wX i a (wZ j (aZ_layOut j c ))) := by
  refine am_Ev_of cwZ_layOut rfl rfl rfl (am_wt_T gdZ_layOut [5] 400 ?_)
  exact am_Tc (am_Tw (tZ_layOut_l i a ((Int32.toInt (j 0) + 1 - Int32.toInt (0 : Int32)).toNat + 1) j c (48 : Int32) (0 : Int32) (Nat.lt_add_one _) ⟨by decide, hl⟩) ⟨Or.inr rfl, Or.inr rfl, Or.inr rfl, Or.inl rfl, trivial⟩) (by unfold rZ_layOut; rfl) (by unfold aZ_layOut; rfl)
end
section
/-! walks by program: the reference's writing -/
theorem put_in {a n k : Int32} (hp : 0 ≤ a.toInt ∧ a.toInt + (n.toInt - k.toInt) ≤ 256) (h : ¬ n ≤ k) : vp_in a 256 := by
  have := nle h
  rw [vp_in_iff]
  omega
theorem one_i {a : Int32} (h : a.toInt < 2147483647) : (a + 1).toInt = a.toInt + 1 := by
  have := i32_lo a
  rw [add_i (by rw [show (1 : Int32).toInt = 1 from rfl]; omega) (by rw [show (1 : Int32).toInt = 1 from rfl]; omega), show (1 : Int32).toInt = 1 from rfl]
theorem put_pre {a n k : Int32} (hp : 0 ≤ a.toInt ∧ a.toInt + (n.toInt - k.toInt) ≤ 256) (h : ¬ n ≤ k) : 0 ≤ (a + 1).toInt ∧ (a + 1).toInt + (n.toInt - (k + 1).toInt) ≤ 256 := by
  have h1 := nle h
  rw [one_i (a := a) (by omega), up_i h]
  omega
noncomputable def iZ_put_l : Nat → (Nat → Int32) → (Nat → Nat → Int32) → Int32 → Int32 → Int32 → Nat → Int32
  | 0, j, _, _, _, _ => j
  | f + 1, j, c, b, n, k => if n ≤ k then j else (iZ_put_l f (sI j ((j 4) + (1 : Int32)) 4) (sA c (upd (c 11) (Int32.toNatClampNeg (j 4)) ((b >>> (((8 : Int32) * k) &&& 31)) &&& (255 : Int32))) 11) b n (k + (1 : Int32)))
noncomputable def aZ_put_l : Nat → (Nat → Int32) → (Nat → Nat → Int32) → Int32 → Int32 → Int32 → Nat → Nat → Int32
  | 0, _, c, _, _, _ => c
  | f + 1, j, c, b, n, k => if n ≤ k then c else (aZ_put_l f (sI j ((j 4) + (1 : Int32)) 4) (sA c (upd (c 11) (Int32.toNatClampNeg (j 4)) ((b >>> (((8 : Int32) * k) &&& 31)) &&& (255 : Int32))) 11) b n (k + (1 : Int32)))
set_option maxHeartbeats 4000000 in
set_option maxRecDepth 100000 in
theorem tZ_put_l (i : Nat → Int32) (a : Nat → Nat → Int32) : ∀ (f : Nat) (j : Nat → Int32) (c : Nat → Nat → Int32) (b n k : Int32), (Int32.toInt n - Int32.toInt k).toNat < f → 0 ≤ (j 4).toInt ∧ (j 4).toInt + (n.toInt - k.toInt) ≤ 256 → am_T sZ_put none (wX i a (wZ (iZ_put_l f j c b n k) (aZ_put_l f j c b n k))) 2 [.ref 30, .int b, .int n, .int k] [] (wX i a (wZ j c)) 0 0 := by
  intro f
  induction f with
  | zero => intro j c b n k hm; exact absurd hm (Nat.not_lt_zero _)
  | succ f ih =>
    intro j c b n k hm hp
    refine am_wu_T gdZ_put [2] 400 ?_
    refine am_split (fun h1 => ?_) (fun h1 => ?_)
    · skip
      exact am_rv (S := sZ_put) (by simp only [iZ_put_l, aZ_put_l, if_pos h1]; try rfl) rfl
    · skip
      refine And.intro (by exact put_in hp (by assumption)) ?_
      exact am_Tc (am_Tw (ih (sI j ((j 4) + (1 : Int32)) 4) (sA c (upd (c 11) (Int32.toNatClampNeg (j 4)) ((b >>> (((8 : Int32) * k) &&& 31)) &&& (255 : Int32))) 11) b n (k + (1 : Int32)) (ms_up (by assumption) hm) (put_pre hp (by assumption))) ⟨Or.inr rfl, Or.inr rfl, Or.inr rfl, Or.inr rfl, trivial⟩) rfl (by simp only [iZ_put_l, aZ_put_l, if_neg h1])
noncomputable def iZ_put (j : Nat → Int32) (c : Nat → Nat → Int32) (p q : Int32) : Nat → Int32 := (iZ_put_l ((Int32.toInt q - Int32.toInt (0 : Int32)).toNat + 1) j c p q (0 : Int32))
noncomputable def aZ_put (j : Nat → Int32) (c : Nat → Nat → Int32) (p q : Int32) : Nat → Nat → Int32 := (aZ_put_l ((Int32.toInt q - Int32.toInt (0 : Int32)).toNat + 1) j c p q (0 : Int32))
set_option maxHeartbeats 4000000 in
set_option maxRecDepth 100000 in
theorem eZ_put (j : Nat → Int32) (c : Nat → Nat → Int32) (p q : Int32) (i : Nat → Int32) (a : Nat → Nat → Int32) (hp : 0 ≤ (j 4).toInt ∧ (j 4).toInt + q.toInt ≤ 256) : am_Ev sZ_put [.ref 30, .int p, .int q] (wX i a (wZ j c)) none (wX i a (wZ (iZ_put j c p q) (aZ_put j c p q))) := by
  refine am_Ev_of cwZ_put rfl rfl rfl (am_wt_T gdZ_put [2] 400 ?_)
  exact am_Tc (am_Tw (tZ_put_l i a ((Int32.toInt q - Int32.toInt (0 : Int32)).toNat + 1) j c p q (0 : Int32) (Nat.lt_add_one _) ⟨hp.1, by rw [show (0 : Int32).toInt = 0 from rfl]; omega⟩) ⟨Or.inr rfl, Or.inr rfl, Or.inr rfl, Or.inr rfl, trivial⟩) rfl (by unfold iZ_put aZ_put; rfl)
theorem put4_at (j : Nat → Int32) (c : Nat → Nat → Int32) (b : Int32) : iZ_put j c b 4 4 = j 4 + 1 + 1 + 1 + 1 := rfl
theorem put2_at (j : Nat → Int32) (c : Nat → Nat → Int32) (b : Int32) : iZ_put j c b 2 4 = j 4 + 1 + 1 := rfl
theorem add4_i {a : Int32} (h : a.toInt ≤ 1000) : (a + 1 + 1 + 1 + 1).toInt = a.toInt + 4 := by
  have e1 := one_i (a := a) (by omega)
  have e2 := one_i (a := a + 1) (by omega)
  have e3 := one_i (a := a + 1 + 1) (by omega)
  have e4 := one_i (a := a + 1 + 1 + 1) (by omega)
  omega
theorem add2_i {a : Int32} (h : a.toInt ≤ 1000) : (a + 1 + 1).toInt = a.toInt + 2 := by
  have e1 := one_i (a := a) (by omega)
  have e2 := one_i (a := a + 1) (by omega)
  omega
def padok (a t : Int32) : Prop := 0 ≤ a.toInt ∧ t.toInt ≤ 256 ∧ ∃ m : Nat, t.toInt = a.toInt + 4 * m
theorem padok_put {a t : Int32} (h : padok a t) (h1 : ¬ t ≤ a) : 0 ≤ a.toInt ∧ a.toInt + (4 : Int32).toInt ≤ 256 := by
  obtain ⟨h2, h3, m, h4⟩ := h
  have := nle h1
  rw [show (4 : Int32).toInt = 4 from rfl]
  omega
theorem padok_up {a t : Int32} (h : padok a t) (h1 : ¬ t ≤ a) : padok (a + 1 + 1 + 1 + 1) t := by
  obtain ⟨h2, h3, m, h4⟩ := h
  have := nle h1
  refine ⟨?_, h3, m - 1, ?_⟩
  · rw [add4_i (by omega)]; omega
  · rw [add4_i (by omega)]; omega
theorem padok_ms {a t : Int32} {f : Nat} (h : padok a t) (h1 : ¬ t ≤ a) (hm : (t.toInt - a.toInt).toNat < f + 1) : (t.toInt - (a + 1 + 1 + 1 + 1).toInt).toNat < f := by
  obtain ⟨h2, h3, m, h4⟩ := h
  have := nle h1
  rw [add4_i (by omega)]
  omega
noncomputable def iZ_pad_l : Nat → (Nat → Int32) → (Nat → Nat → Int32) → Int32 → Nat → Int32
  | 0, j, _, _ => j
  | f + 1, j, c, t => if t ≤ (j 4) then j else (iZ_pad_l f (iZ_put j c (rZ_made (4 : Int32) (0 : Int32) (0 : Int32) (0 : Int32)) (4 : Int32)) (aZ_put j c (rZ_made (4 : Int32) (0 : Int32) (0 : Int32) (0 : Int32)) (4 : Int32)) t)
noncomputable def aZ_pad_l : Nat → (Nat → Int32) → (Nat → Nat → Int32) → Int32 → Nat → Nat → Int32
  | 0, _, c, _ => c
  | f + 1, j, c, t => if t ≤ (j 4) then c else (aZ_pad_l f (iZ_put j c (rZ_made (4 : Int32) (0 : Int32) (0 : Int32) (0 : Int32)) (4 : Int32)) (aZ_put j c (rZ_made (4 : Int32) (0 : Int32) (0 : Int32) (0 : Int32)) (4 : Int32)) t)
set_option maxHeartbeats 4000000 in
set_option maxRecDepth 100000 in
theorem tZ_pad_l (i : Nat → Int32) (a : Nat → Nat → Int32) : ∀ (f : Nat) (j : Nat → Int32) (c : Nat → Nat → Int32) (t : Int32), (Int32.toInt t - Int32.toInt (j 4)).toNat < f → padok (j 4) t → am_T sZ_pad none (wX i a (wZ (iZ_pad_l f j c t) (aZ_pad_l f j c t))) 24 [.ref 30, .int t] [] (wX i a (wZ j c)) 0 0 := by
  intro f
  induction f with
  | zero => intro j c t hm; exact absurd hm (Nat.not_lt_zero _)
  | succ f ih =>
    intro j c t hm hp
    refine am_wu_T gdZ_pad [24] 400 ?_
    refine am_split (fun h1 => ?_) (fun h1 => ?_)
    · skip
      exact am_rv (S := sZ_pad) (am_w2z (i2 := j) (a2 := c) (by rw [iZ_pad_l]; rw [if_pos h1]) (by rw [aZ_pad_l]; rw [if_pos h1]) rfl) rfl
    · skip
      refine am_call (eZ_made (4 : Int32) (0 : Int32) (0 : Int32) (0 : Int32) _) ?_
      refine am_callz (eZ_put j c (rZ_made (4 : Int32) (0 : Int32) (0 : Int32) (0 : Int32)) (4 : Int32) i a  (by exact padok_put hp (by assumption))) (fun I1 A1 hI1 hA1 => ?_)
      exact am_Tc (am_Tw (ih I1 A1 t (by rw [hI1, put4_at]; exact padok_ms hp (by assumption) hm) (by rw [hI1, put4_at]; exact padok_up hp (by assumption))) ⟨Or.inr rfl, Or.inr rfl, trivial⟩) rfl (am_w2z (by rw [iZ_pad_l]; (try rw [← hI1]); (try rw [← hA1]); rw [if_neg h1]) (by rw [aZ_pad_l]; (try rw [← hI1]); (try rw [← hA1]); rw [if_neg h1]) rfl)
noncomputable def iZ_pad (j : Nat → Int32) (c : Nat → Nat → Int32) (p : Int32) : Nat → Int32 := if ((p - (j 4)) - (p - (j 4)) / (4 : Int32) * (4 : Int32)) = (0 : Int32) then (iZ_pad_l ((Int32.toInt p - Int32.toInt (j 4)).toNat + 1) j c p) else (iZ_pad_l ((Int32.toInt p - Int32.toInt ((iZ_put j c (rZ_made (13 : Int32) (0 : Int32) (0 : Int32) (0 : Int32)) (2 : Int32)) 4)).toNat + 1) (iZ_put j c (rZ_made (13 : Int32) (0 : Int32) (0 : Int32) (0 : Int32)) (2 : Int32)) (aZ_put j c (rZ_made (13 : Int32) (0 : Int32) (0 : Int32) (0 : Int32)) (2 : Int32)) p)
noncomputable def aZ_pad (j : Nat → Int32) (c : Nat → Nat → Int32) (p : Int32) : Nat → Nat → Int32 := if ((p - (j 4)) - (p - (j 4)) / (4 : Int32) * (4 : Int32)) = (0 : Int32) then (aZ_pad_l ((Int32.toInt p - Int32.toInt (j 4)).toNat + 1) j c p) else (aZ_pad_l ((Int32.toInt p - Int32.toInt ((iZ_put j c (rZ_made (13 : Int32) (0 : Int32) (0 : Int32) (0 : Int32)) (2 : Int32)) 4)).toNat + 1) (iZ_put j c (rZ_made (13 : Int32) (0 : Int32) (0 : Int32) (0 : Int32)) (2 : Int32)) (aZ_put j c (rZ_made (13 : Int32) (0 : Int32) (0 : Int32) (0 : Int32)) (2 : Int32)) p)
set_option maxHeartbeats 4000000 in
set_option maxRecDepth 100000 in
theorem eZ_pad (j : Nat → Int32) (c : Nat → Nat → Int32) (p : Int32) (i : Nat → Int32) (a : Nat → Nat → Int32) (he : ((p - j 4) - (p - j 4) / (4 : Int32) * (4 : Int32)) = 0 → padok (j 4) p) (ho : ¬ ((p - j 4) - (p - j 4) / (4 : Int32) * (4 : Int32)) = 0 → (0 ≤ (j 4).toInt ∧ (j 4).toInt + (2 : Int32).toInt ≤ 256) ∧ padok (j 4 + 1 + 1) p) : am_Ev sZ_pad [.ref 30, .int p] (wX i a (wZ j c)) none (wX i a (wZ (iZ_pad j c p) (aZ_pad j c p))) := by
  refine am_Ev_of cwZ_pad rfl rfl rfl (am_wt_T gdZ_pad [24] 400 ?_)
  refine am_split (fun h1 => ?_) (fun h1 => ?_)
  · skip
    exact am_Tc (am_Tw (tZ_pad_l i a ((Int32.toInt p - Int32.toInt (j 4)).toNat + 1) j c p (Nat.lt_add_one _) (by first | exact he (by assumption) | (rw [hI1, put2_at]; exact (ho (by assumption)).2))) ⟨Or.inr rfl, Or.inr rfl, trivial⟩) rfl (am_w2z (by unfold iZ_pad; rw [if_pos h1]) (by unfold aZ_pad; rw [if_pos h1]) rfl)
  · skip
    refine am_call (eZ_made (13 : Int32) (0 : Int32) (0 : Int32) (0 : Int32) _) ?_
    refine am_callz (eZ_put j c (rZ_made (13 : Int32) (0 : Int32) (0 : Int32) (0 : Int32)) (2 : Int32) i a  (by exact (ho (by assumption)).1)) (fun I1 A1 hI1 hA1 => ?_)
    exact am_Tc (am_Tw (tZ_pad_l i a ((Int32.toInt p - Int32.toInt (I1 4)).toNat + 1) I1 A1 p (Nat.lt_add_one _) (by first | exact he (by assumption) | (rw [hI1, put2_at]; exact (ho (by assumption)).2))) ⟨Or.inr rfl, Or.inr rfl, trivial⟩) rfl (am_w2z (by unfold iZ_pad; (try rw [← hI1]); (try rw [← hA1]); rw [if_neg h1]) (by unfold aZ_pad; (try rw [← hI1]); (try rw [← hA1]); rw [if_neg h1]) rfl)
noncomputable def rZ_length_l : Nat → (Nat → Int32) → (Nat → Nat → Int32) → Int32 → Int32 → Int32
  | 0, _, _, _, _ => 0
  | f + 1, j, c, n, k => if n ≤ k then (1 : Int32) else (rZ_length_l f j (sA c (upd (c 11) (Int32.toNatClampNeg k) (0 : Int32)) 11) n (k + (1 : Int32)))
noncomputable def iZ_length_l : Nat → (Nat → Int32) → (Nat → Nat → Int32) → Int32 → Int32 → Nat → Int32
  | 0, j, _, _, _ => j
  | f + 1, j, c, n, k => if n ≤ k then (sI j n 3) else (iZ_length_l f j (sA c (upd (c 11) (Int32.toNatClampNeg k) (0 : Int32)) 11) n (k + (1 : Int32)))
noncomputable def aZ_length_l : Nat → (Nat → Int32) → (Nat → Nat → Int32) → Int32 → Int32 → Nat → Nat → Int32
  | 0, _, c, _, _ => c
  | f + 1, j, c, n, k => if n ≤ k then c else (aZ_length_l f j (sA c (upd (c 11) (Int32.toNatClampNeg k) (0 : Int32)) 11) n (k + (1 : Int32)))
set_option maxHeartbeats 4000000 in
set_option maxRecDepth 100000 in
theorem tZ_length_l (i : Nat → Int32) (a : Nat → Nat → Int32) : ∀ (f : Nat) (j : Nat → Int32) (c : Nat → Nat → Int32) (n k : Int32), (Int32.toInt n - Int32.toInt k).toNat < f → 0 ≤ k.toInt ∧ n.toInt ≤ 256 → am_T sZ_length (some (.int (rZ_length_l f j c n k))) (wX i a (wZ (iZ_length_l f j c n k) (aZ_length_l f j c n k))) 18 [.ref 30, .int n, .int k] [] (wX i a (wZ j c)) 0 0 := by
  intro f
  induction f with
  | zero => intro j c n k hm; exact absurd hm (Nat.not_lt_zero _)
  | succ f ih =>
    intro j c n k hm hp
    refine am_wu_T gdZ_length [18] 400 ?_
    refine am_split (fun h1 => ?_) (fun h1 => ?_)
    · skip
      exact am_ri (S := sZ_length) (by simp only [rZ_length_l, if_pos h1]; try rfl) (by simp only [iZ_length_l, aZ_length_l, if_pos h1]; try rfl) rfl rfl
    · skip
      refine And.intro (by exact vp_nn hp.1 (by assumption) hp.2) ?_
      exact am_Tc (am_Tw (ih j (sA c (upd (c 11) (Int32.toNatClampNeg k) (0 : Int32)) 11) n (k + (1 : Int32)) (ms_up (by assumption) hm) ⟨nn_up hp.1 (by assumption), hp.2⟩) ⟨Or.inr rfl, Or.inr rfl, Or.inr rfl, trivial⟩) (by simp only [rZ_length_l, if_neg h1]) (by simp only [iZ_length_l, aZ_length_l, if_neg h1])
theorem zoZ_length_l : ∀ (f : Nat) (j : Nat → Int32) (c : Nat → Nat → Int32) (n k : Int32), rZ_length_l f j c n k = 0 ∨ rZ_length_l f j c n k = 1 := by
  intro f
  induction f with
  | zero => intro j c n k; exact Or.inl rfl
  | succ f ih =>
    intro j c n k
    simp only [rZ_length_l]
    repeat' (first | with_reducible refine zo_ite ?_ ?_ | with_reducible exact ih .. | with_reducible exact Or.inl rfl | with_reducible exact Or.inr rfl)
noncomputable def rZ_length (j : Nat → Int32) (c : Nat → Nat → Int32) (p : Int32) : Int32 := if (rZ_outside p (0 : Int32) (256 : Int32)) = (0 : Int32) then (rZ_length_l ((Int32.toInt p - Int32.toInt (j 3)).toNat + 1) j c p (j 3)) else (0 : Int32)
noncomputable def iZ_length (j : Nat → Int32) (c : Nat → Nat → Int32) (p : Int32) : Nat → Int32 := if (rZ_outside p (0 : Int32) (256 : Int32)) = (0 : Int32) then (iZ_length_l ((Int32.toInt p - Int32.toInt (j 3)).toNat + 1) j c p (j 3)) else j
noncomputable def aZ_length (j : Nat → Int32) (c : Nat → Nat → Int32) (p : Int32) : Nat → Nat → Int32 := if (rZ_outside p (0 : Int32) (256 : Int32)) = (0 : Int32) then (aZ_length_l ((Int32.toInt p - Int32.toInt (j 3)).toNat + 1) j c p (j 3)) else c
set_option maxHeartbeats 4000000 in
set_option maxRecDepth 100000 in
theorem eZ_length (j : Nat → Int32) (c : Nat → Nat → Int32) (p : Int32) (i : Nat → Int32) (a : Nat → Nat → Int32) (hz : 0 ≤ (j 3).toInt) : am_Ev sZ_length [.ref 30, .int p] (wX i a (wZ j c)) (some (.int (rZ_length j c p))) (wX i a (wZ (iZ_length j c p) (aZ_length j c p))) := by
  refine am_Ev_of cwZ_length rfl rfl rfl (am_wt_T gdZ_length [18] 400 ?_)
  refine am_call (eZ_outside p (0 : Int32) (256 : Int32) _) ?_
  refine am_split (fun h1 => ?_) (fun h1 => ?_)
  · skip
    exact am_Tc (am_Tw (tZ_length_l i a ((Int32.toInt p - Int32.toInt (j 3)).toNat + 1) j c p (j 3) (Nat.lt_add_one _) ⟨hz, (outside_i.mp (by assumption)).2⟩) ⟨Or.inr rfl, Or.inr rfl, Or.inr rfl, trivial⟩) (by unfold rZ_length; simp only [if_pos h1]; try rfl) (by unfold iZ_length aZ_length; simp only [if_pos h1]; try rfl)
  · skip
    exact am_ri (S := sZ_length) (by unfold rZ_length; simp only [if_neg h1]; try rfl) (by unfold iZ_length aZ_length; simp only [if_neg h1]; try rfl) rfl rfl
theorem zoZ_length (j : Nat → Int32) (c : Nat → Nat → Int32) (p : Int32) : rZ_length j c p = 0 ∨ rZ_length j c p = 1 := by
  unfold rZ_length
  repeat' (first | with_reducible refine zo_ite ?_ ?_ | with_reducible exact zoZ_length_l .. | with_reducible exact Or.inl rfl | with_reducible exact Or.inr rfl)
end
