section
/-- a private method of a class that the tables say can be made, by its rows of tables_1 -/
def lw_okq (q : MethodName × Nat) : Prop := (q.1.cls ≠ "java/lang/invoke/MethodHandle" ∧ q.1.cls ≠ "java/lang/invoke/VarHandle") ∧ Cond.instantiable q.1.cls q.2 ∈ tables_1 ∧ Cond.privateMethod q.1 ∈ tables_1 ∧ Cond.instanceMethod q.1 ∈ tables_1
theorem lw_p0 : lw_okq (⟨"FencedCode$Program", "targetOf", "(I)I"⟩, 8) := ⟨⟨by decide +kernel, by decide +kernel⟩, List.mem_of_getElem? (i := 24) (by decide +kernel), List.mem_of_getElem? (i := 320) (by decide +kernel), List.mem_of_getElem? (i := 321) (by decide +kernel)⟩
theorem lw_p1 : lw_okq (⟨"FencedCode$Rewriter", "pad", "(I)V"⟩, 3) := ⟨⟨by decide +kernel, by decide +kernel⟩, List.mem_of_getElem? (i := 80) (by decide +kernel), List.mem_of_getElem? (i := 387) (by decide +kernel), List.mem_of_getElem? (i := 388) (by decide +kernel)⟩
theorem lw_p2 : lw_okq (⟨"FencedCode$Rewriter", "write", "(IIII)V"⟩, 3) := ⟨⟨by decide +kernel, by decide +kernel⟩, List.mem_of_getElem? (i := 80) (by decide +kernel), List.mem_of_getElem? (i := 391) (by decide +kernel), List.mem_of_getElem? (i := 392) (by decide +kernel)⟩
theorem lw_p3 : lw_okq (⟨"FencedCode$Code", "has", "(I)Z"⟩, 2) := ⟨⟨by decide +kernel, by decide +kernel⟩, List.mem_of_getElem? (i := 64) (by decide +kernel), List.mem_of_getElem? (i := 403) (by decide +kernel), List.mem_of_getElem? (i := 404) (by decide +kernel)⟩
theorem lw_p4 : lw_okq (⟨"FencedCode$Rewriter", "writeLine", "(IIII)V"⟩, 3) := ⟨⟨by decide +kernel, by decide +kernel⟩, List.mem_of_getElem? (i := 80) (by decide +kernel), List.mem_of_getElem? (i := 415) (by decide +kernel), List.mem_of_getElem? (i := 416) (by decide +kernel)⟩
theorem lw_p5 : lw_okq (⟨"FencedCode$Checker", "firstBroken", "()I"⟩, 4) := ⟨⟨by decide +kernel, by decide +kernel⟩, List.mem_of_getElem? (i := 96) (by decide +kernel), List.mem_of_getElem? (i := 450) (by decide +kernel), List.mem_of_getElem? (i := 451) (by decide +kernel)⟩
theorem lw_p6 : lw_okq (⟨"FencedCode$Checker", "firstUnsafe", "()I"⟩, 4) := ⟨⟨by decide +kernel, by decide +kernel⟩, List.mem_of_getElem? (i := 96) (by decide +kernel), List.mem_of_getElem? (i := 461) (by decide +kernel), List.mem_of_getElem? (i := 462) (by decide +kernel)⟩
theorem lw_p7 : lw_okq (⟨"FencedCode$Checker", "begunAt", "(I)I"⟩, 4) := ⟨⟨by decide +kernel, by decide +kernel⟩, List.mem_of_getElem? (i := 96) (by decide +kernel), List.mem_of_getElem? (i := 465) (by decide +kernel), List.mem_of_getElem? (i := 466) (by decide +kernel)⟩
theorem lw_p8 : lw_okq (⟨"FencedCode$Checker", "isSafe", "(II)Z"⟩, 4) := ⟨⟨by decide +kernel, by decide +kernel⟩, List.mem_of_getElem? (i := 96) (by decide +kernel), List.mem_of_getElem? (i := 469) (by decide +kernel), List.mem_of_getElem? (i := 470) (by decide +kernel)⟩
theorem lw_p9 : lw_okq (⟨"FencedCode$Checker", "isDataFenced", "(I)Z"⟩, 4) := ⟨⟨by decide +kernel, by decide +kernel⟩, List.mem_of_getElem? (i := 96) (by decide +kernel), List.mem_of_getElem? (i := 494) (by decide +kernel), List.mem_of_getElem? (i := 495) (by decide +kernel)⟩
theorem lw_p10 : lw_okq (⟨"FencedCode$Checker", "before", "(II)I"⟩, 4) := ⟨⟨by decide +kernel, by decide +kernel⟩, List.mem_of_getElem? (i := 96) (by decide +kernel), List.mem_of_getElem? (i := 498) (by decide +kernel), List.mem_of_getElem? (i := 499) (by decide +kernel)⟩
theorem lw_p11 : lw_okq (⟨"FencedCode$Checker", "mayLeadTo", "(I)Z"⟩, 4) := ⟨⟨by decide +kernel, by decide +kernel⟩, List.mem_of_getElem? (i := 96) (by decide +kernel), List.mem_of_getElem? (i := 502) (by decide +kernel), List.mem_of_getElem? (i := 503) (by decide +kernel)⟩
theorem lw_p12 : lw_okq (⟨"FencedCode$Checker", "mayChangeReserved", "(III)Z"⟩, 4) := ⟨⟨by decide +kernel, by decide +kernel⟩, List.mem_of_getElem? (i := 96) (by decide +kernel), List.mem_of_getElem? (i := 509) (by decide +kernel), List.mem_of_getElem? (i := 510) (by decide +kernel)⟩
theorem lw_p13 : lw_okq (⟨"FencedCode$Machine", "comeBack", "()V"⟩, 9) := ⟨⟨by decide +kernel, by decide +kernel⟩, List.mem_of_getElem? (i := 145) (by decide +kernel), List.mem_of_getElem? (i := 568) (by decide +kernel), List.mem_of_getElem? (i := 569) (by decide +kernel)⟩
theorem lw_p14 : lw_okq (⟨"FencedCode$Machine", "stepInCode", "(I)I"⟩, 9) := ⟨⟨by decide +kernel, by decide +kernel⟩, List.mem_of_getElem? (i := 145) (by decide +kernel), List.mem_of_getElem? (i := 585) (by decide +kernel), List.mem_of_getElem? (i := 586) (by decide +kernel)⟩
theorem lw_p15 : lw_okq (⟨"FencedCode$Trial", "leap", "(III)I"⟩, 9) := ⟨⟨by decide +kernel, by decide +kernel⟩, List.mem_of_getElem? (i := 189) (by decide +kernel), List.mem_of_getElem? (i := 633) (by decide +kernel), List.mem_of_getElem? (i := 634) (by decide +kernel)⟩
def lw_privs_1 : List (MethodName × Nat) := [(⟨"FencedCode$Program", "targetOf", "(I)I"⟩, 8), (⟨"FencedCode$Rewriter", "pad", "(I)V"⟩, 3), (⟨"FencedCode$Rewriter", "write", "(IIII)V"⟩, 3), (⟨"FencedCode$Code", "has", "(I)Z"⟩, 2), (⟨"FencedCode$Rewriter", "writeLine", "(IIII)V"⟩, 3), (⟨"FencedCode$Checker", "firstBroken", "()I"⟩, 4), (⟨"FencedCode$Checker", "firstUnsafe", "()I"⟩, 4), (⟨"FencedCode$Checker", "begunAt", "(I)I"⟩, 4), (⟨"FencedCode$Checker", "isSafe", "(II)Z"⟩, 4), (⟨"FencedCode$Checker", "isDataFenced", "(I)Z"⟩, 4), (⟨"FencedCode$Checker", "before", "(II)I"⟩, 4), (⟨"FencedCode$Checker", "mayLeadTo", "(I)Z"⟩, 4), (⟨"FencedCode$Checker", "mayChangeReserved", "(III)Z"⟩, 4), (⟨"FencedCode$Machine", "comeBack", "()V"⟩, 9), (⟨"FencedCode$Machine", "stepInCode", "(I)I"⟩, 9), (⟨"FencedCode$Trial", "leap", "(III)I"⟩, 9)]
theorem lw_r1 : ∀ q ∈ lw_privs_1, lw_okq q := List.forall_mem_cons.mpr ⟨lw_p0, List.forall_mem_cons.mpr ⟨lw_p1, List.forall_mem_cons.mpr ⟨lw_p2, List.forall_mem_cons.mpr ⟨lw_p3, List.forall_mem_cons.mpr ⟨lw_p4, List.forall_mem_cons.mpr ⟨lw_p5, List.forall_mem_cons.mpr ⟨lw_p6, List.forall_mem_cons.mpr ⟨lw_p7, List.forall_mem_cons.mpr ⟨lw_p8, List.forall_mem_cons.mpr ⟨lw_p9, List.forall_mem_cons.mpr ⟨lw_p10, List.forall_mem_cons.mpr ⟨lw_p11, List.forall_mem_cons.mpr ⟨lw_p12, List.forall_mem_cons.mpr ⟨lw_p13, List.forall_mem_cons.mpr ⟨lw_p14, List.forall_mem_cons.mpr ⟨lw_p15, fun _ h => absurd h List.not_mem_nil⟩⟩⟩⟩⟩⟩⟩⟩⟩⟩⟩⟩⟩⟩⟩⟩
theorem lw_p16 : lw_okq (⟨"FencedCode$Trial", "serve", "(II)I"⟩, 9) := ⟨⟨by decide +kernel, by decide +kernel⟩, List.mem_of_getElem? (i := 189) (by decide +kernel), List.mem_of_getElem? (i := 642) (by decide +kernel), List.mem_of_getElem? (i := 643) (by decide +kernel)⟩
theorem lw_p17 : lw_okq (⟨"FencedCode", "runnerOf", "(I)LFencedCode$Runner;"⟩, 9) := ⟨⟨by decide +kernel, by decide +kernel⟩, List.mem_of_getElem? (i := 16) (by decide +kernel), List.mem_of_getElem? (i := 666) (by decide +kernel), List.mem_of_getElem? (i := 667) (by decide +kernel)⟩
theorem lw_p18 : lw_okq (⟨"FencedCodeModel", "targetOf", "(I)I"⟩, 28) := ⟨⟨by decide +kernel, by decide +kernel⟩, List.mem_of_getElem? (i := 695) (by decide +kernel), List.mem_of_getElem? (i := 858) (by decide +kernel), List.mem_of_getElem? (i := 859) (by decide +kernel)⟩
theorem lw_p19 : lw_okq (⟨"FencedCodeModel", "layOut", "()I"⟩, 28) := ⟨⟨by decide +kernel, by decide +kernel⟩, List.mem_of_getElem? (i := 695) (by decide +kernel), List.mem_of_getElem? (i := 862) (by decide +kernel), List.mem_of_getElem? (i := 863) (by decide +kernel)⟩
theorem lw_p20 : lw_okq (⟨"FencedCodeModel", "isAimed", "(I)Z"⟩, 28) := ⟨⟨by decide +kernel, by decide +kernel⟩, List.mem_of_getElem? (i := 695) (by decide +kernel), List.mem_of_getElem? (i := 866) (by decide +kernel), List.mem_of_getElem? (i := 867) (by decide +kernel)⟩
theorem lw_p21 : lw_okq (⟨"FencedCodeModel", "sizeOf", "(I)I"⟩, 28) := ⟨⟨by decide +kernel, by decide +kernel⟩, List.mem_of_getElem? (i := 695) (by decide +kernel), List.mem_of_getElem? (i := 873) (by decide +kernel), List.mem_of_getElem? (i := 874) (by decide +kernel)⟩
theorem lw_p22 : lw_okq (⟨"FencedCodeModel", "ends", "(I)Z"⟩, 28) := ⟨⟨by decide +kernel, by decide +kernel⟩, List.mem_of_getElem? (i := 695) (by decide +kernel), List.mem_of_getElem? (i := 877) (by decide +kernel), List.mem_of_getElem? (i := 878) (by decide +kernel)⟩
theorem lw_p23 : lw_okq (⟨"FencedCodeModel", "pad", "(I)V"⟩, 28) := ⟨⟨by decide +kernel, by decide +kernel⟩, List.mem_of_getElem? (i := 695) (by decide +kernel), List.mem_of_getElem? (i := 881) (by decide +kernel), List.mem_of_getElem? (i := 882) (by decide +kernel)⟩
theorem lw_p24 : lw_okq (⟨"FencedCodeModel", "put", "(II)V"⟩, 28) := ⟨⟨by decide +kernel, by decide +kernel⟩, List.mem_of_getElem? (i := 695) (by decide +kernel), List.mem_of_getElem? (i := 885) (by decide +kernel), List.mem_of_getElem? (i := 886) (by decide +kernel)⟩
theorem lw_p25 : lw_okq (⟨"FencedCodeModel", "write", "(I)V"⟩, 28) := ⟨⟨by decide +kernel, by decide +kernel⟩, List.mem_of_getElem? (i := 695) (by decide +kernel), List.mem_of_getElem? (i := 889) (by decide +kernel), List.mem_of_getElem? (i := 890) (by decide +kernel)⟩
theorem lw_p26 : lw_okq (⟨"FencedCodeModel", "bitsAt", "(I)I"⟩, 28) := ⟨⟨by decide +kernel, by decide +kernel⟩, List.mem_of_getElem? (i := 695) (by decide +kernel), List.mem_of_getElem? (i := 913) (by decide +kernel), List.mem_of_getElem? (i := 914) (by decide +kernel)⟩
theorem lw_p27 : lw_okq (⟨"FencedCodeModel", "byteAt", "(I)I"⟩, 28) := ⟨⟨by decide +kernel, by decide +kernel⟩, List.mem_of_getElem? (i := 695) (by decide +kernel), List.mem_of_getElem? (i := 917) (by decide +kernel), List.mem_of_getElem? (i := 918) (by decide +kernel)⟩
theorem lw_p28 : lw_okq (⟨"FencedCodeModel", "right", "(I)Z"⟩, 28) := ⟨⟨by decide +kernel, by decide +kernel⟩, List.mem_of_getElem? (i := 695) (by decide +kernel), List.mem_of_getElem? (i := 925) (by decide +kernel), List.mem_of_getElem? (i := 926) (by decide +kernel)⟩
theorem lw_p29 : lw_okq (⟨"FencedCodeModel", "spoils", "(II)Z"⟩, 28) := ⟨⟨by decide +kernel, by decide +kernel⟩, List.mem_of_getElem? (i := 695) (by decide +kernel), List.mem_of_getElem? (i := 929) (by decide +kernel), List.mem_of_getElem? (i := 930) (by decide +kernel)⟩
theorem lw_p30 : lw_okq (⟨"FencedCodeModel", "isBefore", "(IIZ)Z"⟩, 28) := ⟨⟨by decide +kernel, by decide +kernel⟩, List.mem_of_getElem? (i := 695) (by decide +kernel), List.mem_of_getElem? (i := 934) (by decide +kernel), List.mem_of_getElem? (i := 935) (by decide +kernel)⟩
theorem lw_p31 : lw_okq (⟨"FencedCodeModel", "before", "(I)I"⟩, 28) := ⟨⟨by decide +kernel, by decide +kernel⟩, List.mem_of_getElem? (i := 695) (by decide +kernel), List.mem_of_getElem? (i := 938) (by decide +kernel), List.mem_of_getElem? (i := 939) (by decide +kernel)⟩
def lw_privs_2 : List (MethodName × Nat) := [(⟨"FencedCode$Trial", "serve", "(II)I"⟩, 9), (⟨"FencedCode", "runnerOf", "(I)LFencedCode$Runner;"⟩, 9), (⟨"FencedCodeModel", "targetOf", "(I)I"⟩, 28), (⟨"FencedCodeModel", "layOut", "()I"⟩, 28), (⟨"FencedCodeModel", "isAimed", "(I)Z"⟩, 28), (⟨"FencedCodeModel", "sizeOf", "(I)I"⟩, 28), (⟨"FencedCodeModel", "ends", "(I)Z"⟩, 28), (⟨"FencedCodeModel", "pad", "(I)V"⟩, 28), (⟨"FencedCodeModel", "put", "(II)V"⟩, 28), (⟨"FencedCodeModel", "write", "(I)V"⟩, 28), (⟨"FencedCodeModel", "bitsAt", "(I)I"⟩, 28), (⟨"FencedCodeModel", "byteAt", "(I)I"⟩, 28), (⟨"FencedCodeModel", "right", "(I)Z"⟩, 28), (⟨"FencedCodeModel", "spoils", "(II)Z"⟩, 28), (⟨"FencedCodeModel", "isBefore", "(IIZ)Z"⟩, 28), (⟨"FencedCodeModel", "before", "(I)I"⟩, 28)]
theorem lw_r2 : ∀ q ∈ lw_privs_2, lw_okq q := List.forall_mem_cons.mpr ⟨lw_p16, List.forall_mem_cons.mpr ⟨lw_p17, List.forall_mem_cons.mpr ⟨lw_p18, List.forall_mem_cons.mpr ⟨lw_p19, List.forall_mem_cons.mpr ⟨lw_p20, List.forall_mem_cons.mpr ⟨lw_p21, List.forall_mem_cons.mpr ⟨lw_p22, List.forall_mem_cons.mpr ⟨lw_p23, List.forall_mem_cons.mpr ⟨lw_p24, List.forall_mem_cons.mpr ⟨lw_p25, List.forall_mem_cons.mpr ⟨lw_p26, List.forall_mem_cons.mpr ⟨lw_p27, List.forall_mem_cons.mpr ⟨lw_p28, List.forall_mem_cons.mpr ⟨lw_p29, List.forall_mem_cons.mpr ⟨lw_p30, List.forall_mem_cons.mpr ⟨lw_p31, fun _ h => absurd h List.not_mem_nil⟩⟩⟩⟩⟩⟩⟩⟩⟩⟩⟩⟩⟩⟩⟩⟩
theorem lw_p32 : lw_okq (⟨"FencedCodeModel", "lands", "(I)Z"⟩, 28) := ⟨⟨by decide +kernel, by decide +kernel⟩, List.mem_of_getElem? (i := 695) (by decide +kernel), List.mem_of_getElem? (i := 942) (by decide +kernel), List.mem_of_getElem? (i := 943) (by decide +kernel)⟩
theorem lw_p33 : lw_okq (⟨"FencedCodeModel", "anew", "(I)V"⟩, 28) := ⟨⟨by decide +kernel, by decide +kernel⟩, List.mem_of_getElem? (i := 695) (by decide +kernel), List.mem_of_getElem? (i := 954) (by decide +kernel), List.mem_of_getElem? (i := 955) (by decide +kernel)⟩
theorem lw_p34 : lw_okq (⟨"FencedCodeModel", "set", "(III)V"⟩, 28) := ⟨⟨by decide +kernel, by decide +kernel⟩, List.mem_of_getElem? (i := 695) (by decide +kernel), List.mem_of_getElem? (i := 958) (by decide +kernel), List.mem_of_getElem? (i := 959) (by decide +kernel)⟩
theorem lw_p35 : lw_okq (⟨"FencedCodeModel", "step", "()I"⟩, 28) := ⟨⟨by decide +kernel, by decide +kernel⟩, List.mem_of_getElem? (i := 695) (by decide +kernel), List.mem_of_getElem? (i := 962) (by decide +kernel), List.mem_of_getElem? (i := 963) (by decide +kernel)⟩
theorem lw_p36 : lw_okq (⟨"FencedCodeModel", "serve", "(II)V"⟩, 28) := ⟨⟨by decide +kernel, by decide +kernel⟩, List.mem_of_getElem? (i := 695) (by decide +kernel), List.mem_of_getElem? (i := 966) (by decide +kernel), List.mem_of_getElem? (i := 967) (by decide +kernel)⟩
theorem lw_p37 : lw_okq (⟨"FencedCodeModel", "get", "(II)I"⟩, 28) := ⟨⟨by decide +kernel, by decide +kernel⟩, List.mem_of_getElem? (i := 695) (by decide +kernel), List.mem_of_getElem? (i := 970) (by decide +kernel), List.mem_of_getElem? (i := 971) (by decide +kernel)⟩
theorem lw_p38 : lw_okq (⟨"FencedCodeModel", "moved", "(IIIII)Z"⟩, 28) := ⟨⟨by decide +kernel, by decide +kernel⟩, List.mem_of_getElem? (i := 695) (by decide +kernel), List.mem_of_getElem? (i := 974) (by decide +kernel), List.mem_of_getElem? (i := 975) (by decide +kernel)⟩
theorem lw_p39 : lw_okq (⟨"FencedCodeModel", "holds", "(IIII)Z"⟩, 28) := ⟨⟨by decide +kernel, by decide +kernel⟩, List.mem_of_getElem? (i := 695) (by decide +kernel), List.mem_of_getElem? (i := 978) (by decide +kernel), List.mem_of_getElem? (i := 979) (by decide +kernel)⟩
theorem lw_p40 : lw_okq (⟨"FencedCodeModel", "reckon", "(IIIII)V"⟩, 28) := ⟨⟨by decide +kernel, by decide +kernel⟩, List.mem_of_getElem? (i := 695) (by decide +kernel), List.mem_of_getElem? (i := 982) (by decide +kernel), List.mem_of_getElem? (i := 983) (by decide +kernel)⟩
theorem lw_p41 : lw_okq (⟨"FencedCodeModel", "lineDone", "()I"⟩, 28) := ⟨⟨by decide +kernel, by decide +kernel⟩, List.mem_of_getElem? (i := 695) (by decide +kernel), List.mem_of_getElem? (i := 990) (by decide +kernel), List.mem_of_getElem? (i := 991) (by decide +kernel)⟩
theorem lw_p42 : lw_okq (⟨"FencedCodeModel", "lineAt", "(I)I"⟩, 28) := ⟨⟨by decide +kernel, by decide +kernel⟩, List.mem_of_getElem? (i := 695) (by decide +kernel), List.mem_of_getElem? (i := 994) (by decide +kernel), List.mem_of_getElem? (i := 995) (by decide +kernel)⟩
def lw_privs_3 : List (MethodName × Nat) := [(⟨"FencedCodeModel", "lands", "(I)Z"⟩, 28), (⟨"FencedCodeModel", "anew", "(I)V"⟩, 28), (⟨"FencedCodeModel", "set", "(III)V"⟩, 28), (⟨"FencedCodeModel", "step", "()I"⟩, 28), (⟨"FencedCodeModel", "serve", "(II)V"⟩, 28), (⟨"FencedCodeModel", "get", "(II)I"⟩, 28), (⟨"FencedCodeModel", "moved", "(IIIII)Z"⟩, 28), (⟨"FencedCodeModel", "holds", "(IIII)Z"⟩, 28), (⟨"FencedCodeModel", "reckon", "(IIIII)V"⟩, 28), (⟨"FencedCodeModel", "lineDone", "()I"⟩, 28), (⟨"FencedCodeModel", "lineAt", "(I)I"⟩, 28)]
theorem lw_r3 : ∀ q ∈ lw_privs_3, lw_okq q := List.forall_mem_cons.mpr ⟨lw_p32, List.forall_mem_cons.mpr ⟨lw_p33, List.forall_mem_cons.mpr ⟨lw_p34, List.forall_mem_cons.mpr ⟨lw_p35, List.forall_mem_cons.mpr ⟨lw_p36, List.forall_mem_cons.mpr ⟨lw_p37, List.forall_mem_cons.mpr ⟨lw_p38, List.forall_mem_cons.mpr ⟨lw_p39, List.forall_mem_cons.mpr ⟨lw_p40, List.forall_mem_cons.mpr ⟨lw_p41, List.forall_mem_cons.mpr ⟨lw_p42, fun _ h => absurd h List.not_mem_nil⟩⟩⟩⟩⟩⟩⟩⟩⟩⟩⟩
def lw_privs : List (MethodName × Nat) := lw_privs_1 ++ (lw_privs_2 ++ (lw_privs_3))
def lw_tbl : List Cond := k2_sels lw_privs ++ tables_1
theorem lw_privs_ok : ∀ q ∈ lw_privs, lw_okq q := by
  show ∀ q ∈ lw_privs_1 ++ (lw_privs_2 ++ (lw_privs_3)), lw_okq q
  exact List.forall_mem_append.mpr ⟨lw_r1, List.forall_mem_append.mpr ⟨lw_r2, lw_r3⟩⟩
end
section
def RX0 : String := "FencedCode$Checker"
def TX0 : u_T := fun k => match k with
  | 0 => ("FencedCode$Checker", "code", "LFencedCode$Code;", true)
  | 1 => ("FencedCode$Checker", "dataMasked", "I", true)
  | 2 => ("FencedCode$Checker", "dataBased", "I", true)
  | _ => ("FencedCode$Checker", "begun", "[I", true)
def tyX0 : Nat → FieldType := fun k => match k with
  | 0 => .object "FencedCode$Code"
  | 1 => .int
  | 2 => .int
  | _ => .array .int
abbrev wsX00 : List Cond := u_ws RX0 TX0 4
theorem nmX0 : ∀ a, a < 4 → ∀ b, b < 4 → a ≠ b → (TX0 a).2.1 ≠ (TX0 b).2.1 := by decide +kernel
theorem tyX0_ok : ∀ k, k < 4 → parseFieldDescriptor (TX0 k).2.2.1 = some (tyX0 k) := by decide +kernel
abbrev cX0_init : ByteArray := prog_2_method_1_code
def yX0_init : MethodName := ⟨RX0, "<init>", "(LFencedCode$Code;)V"⟩
abbrev cX0_firstWrong : ByteArray := prog_2_method_2_code
def yX0_firstWrong : MethodName := ⟨RX0, "firstWrong", "()I"⟩
abbrev cX0_firstBroken : ByteArray := prog_2_method_3_code
def yX0_firstBroken : MethodName := ⟨RX0, "firstBroken", "()I"⟩
abbrev cX0_firstUnsafe : ByteArray := prog_2_method_4_code
def yX0_firstUnsafe : MethodName := ⟨RX0, "firstUnsafe", "()I"⟩
abbrev cX0_begunAt : ByteArray := prog_2_method_5_code
def yX0_begunAt : MethodName := ⟨RX0, "begunAt", "(I)I"⟩
abbrev cX0_before : ByteArray := prog_2_method_6_code
def yX0_before : MethodName := ⟨RX0, "before", "(II)I"⟩
abbrev cX0_isSafe : ByteArray := prog_2_method_7_code
def yX0_isSafe : MethodName := ⟨RX0, "isSafe", "(II)Z"⟩
abbrev cX0_mayChangeReserved : ByteArray := prog_2_method_8_code
def yX0_mayChangeReserved : MethodName := ⟨RX0, "mayChangeReserved", "(III)Z"⟩
abbrev cX0_isDataFenced : ByteArray := prog_2_method_9_code
def yX0_isDataFenced : MethodName := ⟨RX0, "isDataFenced", "(I)Z"⟩
abbrev cX0_isCodeMask : ByteArray := prog_2_method_10_code
def yX0_isCodeMask : MethodName := ⟨RX0, "isCodeMask", "(I)Z"⟩
abbrev cX0_mayLeadTo : ByteArray := prog_2_method_11_code
def yX0_mayLeadTo : MethodName := ⟨RX0, "mayLeadTo", "(I)Z"⟩
def RX1 : String := "FencedCode$Code"
def TX1 : u_T := fun k => match k with
  | 0 => ("FencedCode$Code", "bytes", "[I", true)
  | _ => ("FencedCode$Code", "count", "I", false)
def tyX1 : Nat → FieldType := fun k => match k with
  | 0 => .array .int
  | _ => .int
abbrev wsX10 : List Cond := u_ws RX1 TX1 2
theorem nmX1 : ∀ a, a < 2 → ∀ b, b < 2 → a ≠ b → (TX1 a).2.1 ≠ (TX1 b).2.1 := by decide +kernel
theorem tyX1_ok : ∀ k, k < 2 → parseFieldDescriptor (TX1 k).2.2.1 = some (tyX1 k) := by decide +kernel
abbrev cX1_init : ByteArray := prog_3_method_1_code
def yX1_init : MethodName := ⟨RX1, "<init>", "()V"⟩
abbrev cX1_has : ByteArray := prog_3_method_2_code
def yX1_has : MethodName := ⟨RX1, "has", "(I)Z"⟩
abbrev cX1_resize : ByteArray := prog_3_method_3_code
def yX1_resize : MethodName := ⟨RX1, "resize", "(I)Z"⟩
abbrev cX1_put : ByteArray := prog_3_method_4_code
def yX1_put : MethodName := ⟨RX1, "put", "(II)Z"⟩
abbrev cX1_byteAt : ByteArray := prog_3_method_5_code
def yX1_byteAt : MethodName := ⟨RX1, "byteAt", "(I)I"⟩
abbrev cX1_fetch : ByteArray := prog_3_method_6_code
def yX1_fetch : MethodName := ⟨RX1, "fetch", "(I)I"⟩
def RX2 : String := "FencedCode$Format"
def TX2 : u_T := fun k => match k with
  | _ => ("", "", "", false)
def tyX2 : Nat → FieldType := fun k => match k with
  | _ => .int
abbrev wsX20 : List Cond := u_ws RX2 TX2 0
theorem nmX2 : ∀ a, a < 0 → ∀ b, b < 0 → a ≠ b → (TX2 a).2.1 ≠ (TX2 b).2.1 := by decide +kernel
theorem tyX2_ok : ∀ k, k < 0 → parseFieldDescriptor (TX2 k).2.2.1 = some (tyX2 k) := by decide +kernel
abbrev cX2_encodable : ByteArray := prog_4_method_2_code
def yX2_encodable : MethodName := ⟨RX2, "encodable", "(IIII)Z"⟩
abbrev cX2_plainFits : ByteArray := prog_4_method_3_code
def yX2_plainFits : MethodName := ⟨RX2, "plainFits", "(IIIII)Z"⟩
abbrev cX2_isShort : ByteArray := prog_4_method_4_code
def yX2_isShort : MethodName := ⟨RX2, "isShort", "(I)Z"⟩
abbrev cX2_pack : ByteArray := prog_4_method_5_code
def yX2_pack : MethodName := ⟨RX2, "pack", "(IIII)I"⟩
abbrev cX2_threeRegisters : ByteArray := prog_4_method_6_code
def yX2_threeRegisters : MethodName := ⟨RX2, "threeRegisters", "(IIIII)I"⟩
abbrev cX2_withShort : ByteArray := prog_4_method_7_code
def yX2_withShort : MethodName := ⟨RX2, "withShort", "(IIIII)I"⟩
abbrev cX2_branch : ByteArray := prog_4_method_8_code
def yX2_branch : MethodName := ⟨RX2, "branch", "(IIII)I"⟩
abbrev cX2_jump : ByteArray := prog_4_method_9_code
def yX2_jump : MethodName := ⟨RX2, "jump", "(II)I"⟩
abbrev cX2_isLong : ByteArray := prog_4_method_10_code
def yX2_isLong : MethodName := ⟨RX2, "isLong", "(I)Z"⟩
abbrev cX2_sizeOf : ByteArray := prog_4_method_11_code
def yX2_sizeOf : MethodName := ⟨RX2, "sizeOf", "(I)I"⟩
abbrev cX2_kindOf : ByteArray := prog_4_method_12_code
def yX2_kindOf : MethodName := ⟨RX2, "kindOf", "(I)I"⟩
abbrev cX2_arithmeticKindOf : ByteArray := prog_4_method_13_code
def yX2_arithmeticKindOf : MethodName := ⟨RX2, "arithmeticKindOf", "(II)I"⟩
abbrev cX2_branchKindOf : ByteArray := prog_4_method_14_code
def yX2_branchKindOf : MethodName := ⟨RX2, "branchKindOf", "(I)I"⟩
abbrev cX2_shortKindOf : ByteArray := prog_4_method_15_code
def yX2_shortKindOf : MethodName := ⟨RX2, "shortKindOf", "(I)I"⟩
abbrev cX2_lowRegister : ByteArray := prog_4_method_16_code
def yX2_lowRegister : MethodName := ⟨RX2, "lowRegister", "(I)I"⟩
abbrev cX2_middleRegister : ByteArray := prog_4_method_17_code
def yX2_middleRegister : MethodName := ⟨RX2, "middleRegister", "(I)I"⟩
abbrev cX2_highRegister : ByteArray := prog_4_method_18_code
def yX2_highRegister : MethodName := ⟨RX2, "highRegister", "(I)I"⟩
abbrev cX2_shortRegister : ByteArray := prog_4_method_19_code
def yX2_shortRegister : MethodName := ⟨RX2, "shortRegister", "(I)I"⟩
abbrev cX2_shortNumber : ByteArray := prog_4_method_20_code
def yX2_shortNumber : MethodName := ⟨RX2, "shortNumber", "(I)I"⟩
abbrev cX2_branchOffset : ByteArray := prog_4_method_21_code
def yX2_branchOffset : MethodName := ⟨RX2, "branchOffset", "(I)I"⟩
abbrev cX2_jumpOffset : ByteArray := prog_4_method_22_code
def yX2_jumpOffset : MethodName := ⟨RX2, "jumpOffset", "(I)I"⟩
abbrev cX2_firstOf : ByteArray := prog_4_method_23_code
def yX2_firstOf : MethodName := ⟨RX2, "firstOf", "(II)I"⟩
abbrev cX2_secondOf : ByteArray := prog_4_method_24_code
def yX2_secondOf : MethodName := ⟨RX2, "secondOf", "(II)I"⟩
abbrev cX2_thirdOf : ByteArray := prog_4_method_25_code
def yX2_thirdOf : MethodName := ⟨RX2, "thirdOf", "(II)I"⟩
def RX3 : String := "FencedCode$Inputs"
def TX3 : u_T := fun k => match k with
  | 0 => ("FencedCode$Inputs", "values", "[I", true)
  | _ => ("FencedCode$Inputs", "count", "I", false)
def tyX3 : Nat → FieldType := fun k => match k with
  | 0 => .array .int
  | _ => .int
abbrev wsX30 : List Cond := u_ws RX3 TX3 2
theorem nmX3 : ∀ a, a < 2 → ∀ b, b < 2 → a ≠ b → (TX3 a).2.1 ≠ (TX3 b).2.1 := by decide +kernel
theorem tyX3_ok : ∀ k, k < 2 → parseFieldDescriptor (TX3 k).2.2.1 = some (tyX3 k) := by decide +kernel
abbrev cX3_init : ByteArray := prog_5_method_1_code
def yX3_init : MethodName := ⟨RX3, "<init>", "()V"⟩
abbrev cX3_add : ByteArray := prog_5_method_2_code
def yX3_add : MethodName := ⟨RX3, "add", "(I)Z"⟩
abbrev cX3_valueAt : ByteArray := prog_5_method_3_code
def yX3_valueAt : MethodName := ⟨RX3, "valueAt", "(I)I"⟩
def RX4 : String := "FencedCode$Layout"
def TX4 : u_T := fun k => match k with
  | _ => ("", "", "", false)
def tyX4 : Nat → FieldType := fun k => match k with
  | _ => .int
abbrev wsX40 : List Cond := u_ws RX4 TX4 0
theorem nmX4 : ∀ a, a < 0 → ∀ b, b < 0 → a ≠ b → (TX4 a).2.1 ≠ (TX4 b).2.1 := by decide +kernel
theorem tyX4_ok : ∀ k, k < 0 → parseFieldDescriptor (TX4 k).2.2.1 = some (tyX4 k) := by decide +kernel
abbrev cX4_place : ByteArray := prog_6_method_2_code
def yX4_place : MethodName := ⟨RX4, "place", "(LFencedCode$Program;)I"⟩
abbrev cX4_targetPlace : ByteArray := prog_6_method_3_code
def yX4_targetPlace : MethodName := ⟨RX4, "targetPlace", "(LFencedCode$Program;II)I"⟩
abbrev cX4_linePlace : ByteArray := prog_6_method_4_code
def yX4_linePlace : MethodName := ⟨RX4, "linePlace", "(LFencedCode$Program;II)I"⟩
abbrev cX4_endsBundle : ByteArray := prog_6_method_5_code
def yX4_endsBundle : MethodName := ⟨RX4, "endsBundle", "(II)Z"⟩
abbrev cX4_nextWith : ByteArray := prog_6_method_6_code
def yX4_nextWith : MethodName := ⟨RX4, "nextWith", "(II)I"⟩
abbrev cX4_bytesOf : ByteArray := prog_6_method_7_code
def yX4_bytesOf : MethodName := ⟨RX4, "bytesOf", "(I)I"⟩
def RX5 : String := "FencedCode$Machine"
def TX5 : u_T := fun k => match k with
  | 0 => ("FencedCode$Runner", "inputs", "LFencedCode$Inputs;", true)
  | 1 => ("FencedCode$Runner", "registers", "[I", true)
  | 2 => ("FencedCode$Runner", "data", "[I", true)
  | 3 => ("FencedCode$Runner", "outputs", "[I", true)
  | 4 => ("FencedCode$Runner", "inputsRead", "I", false)
  | 5 => ("FencedCode$Runner", "outputCount", "I", false)
  | 6 => ("FencedCode$Runner", "steps", "I", false)
  | 7 => ("FencedCode$Runner", "place", "I", false)
  | _ => ("FencedCode$Machine", "code", "LFencedCode$Code;", true)
def tyX5 : Nat → FieldType := fun k => match k with
  | 0 => .object "FencedCode$Inputs"
  | 1 => .array .int
  | 2 => .array .int
  | 3 => .array .int
  | 4 => .int
  | 5 => .int
  | 6 => .int
  | 7 => .int
  | _ => .object "FencedCode$Code"
abbrev wsX50 : List Cond := u_ws RX5 TX5 9
theorem nmX5 : ∀ a, a < 9 → ∀ b, b < 9 → a ≠ b → (TX5 a).2.1 ≠ (TX5 b).2.1 := by decide +kernel
theorem tyX5_ok : ∀ k, k < 9 → parseFieldDescriptor (TX5 k).2.2.1 = some (tyX5 k) := by decide +kernel
abbrev cX5_init : ByteArray := prog_7_method_1_code
def yX5_init : MethodName := ⟨RX5, "<init>", "(LFencedCode$Code;LFencedCode$Inputs;)V"⟩
abbrev cX5_begin : ByteArray := prog_7_method_2_code
def yX5_begin : MethodName := ⟨RX5, "begin", "()V"⟩
abbrev cX5_step : ByteArray := prog_7_method_3_code
def yX5_step : MethodName := ⟨RX5, "step", "()I"⟩
abbrev cX5_comeBack : ByteArray := prog_7_method_4_code
def yX5_comeBack : MethodName := ⟨RX5, "comeBack", "()V"⟩
abbrev cX5_stepInCode : ByteArray := prog_7_method_5_code
def yX5_stepInCode : MethodName := ⟨RX5, "stepInCode", "(I)I"⟩
def RX6 : String := "FencedCode$Program"
def TX6 : u_T := fun k => match k with
  | 0 => ("FencedCode$Program", "kinds", "[I", true)
  | 1 => ("FencedCode$Program", "as", "[I", true)
  | 2 => ("FencedCode$Program", "bs", "[I", true)
  | 3 => ("FencedCode$Program", "cs", "[I", true)
  | 4 => ("FencedCode$Program", "addresses", "[I", true)
  | 5 => ("FencedCode$Program", "starts", "[I", true)
  | 6 => ("FencedCode$Program", "count", "I", false)
  | _ => ("FencedCode$Program", "codeEnd", "I", false)
def tyX6 : Nat → FieldType := fun k => match k with
  | 0 => .array .int
  | 1 => .array .int
  | 2 => .array .int
  | 3 => .array .int
  | 4 => .array .int
  | 5 => .array .int
  | 6 => .int
  | _ => .int
abbrev wsX60 : List Cond := u_ws RX6 TX6 8
theorem nmX6 : ∀ a, a < 8 → ∀ b, b < 8 → a ≠ b → (TX6 a).2.1 ≠ (TX6 b).2.1 := by decide +kernel
theorem tyX6_ok : ∀ k, k < 8 → parseFieldDescriptor (TX6 k).2.2.1 = some (tyX6 k) := by decide +kernel
abbrev cX6_init : ByteArray := prog_8_method_1_code
def yX6_init : MethodName := ⟨RX6, "<init>", "()V"⟩
abbrev cX6_allows : ByteArray := prog_8_method_2_code
def yX6_allows : MethodName := ⟨RX6, "allows", "(IIII)Z"⟩
abbrev cX6_isFree : ByteArray := prog_8_method_3_code
def yX6_isFree : MethodName := ⟨RX6, "isFree", "(I)Z"⟩
abbrev cX6_mayBeTarget : ByteArray := prog_8_method_4_code
def yX6_mayBeTarget : MethodName := ⟨RX6, "mayBeTarget", "(I)Z"⟩
abbrev cX6_add : ByteArray := prog_8_method_5_code
def yX6_add : MethodName := ⟨RX6, "add", "(IIII)Z"⟩
abbrev cX6_has : ByteArray := prog_8_method_6_code
def yX6_has : MethodName := ⟨RX6, "has", "(II)Z"⟩
abbrev cX6_kindAt : ByteArray := prog_8_method_7_code
def yX6_kindAt : MethodName := ⟨RX6, "kindAt", "(I)I"⟩
abbrev cX6_firstAt : ByteArray := prog_8_method_8_code
def yX6_firstAt : MethodName := ⟨RX6, "firstAt", "(I)I"⟩
abbrev cX6_secondAt : ByteArray := prog_8_method_9_code
def yX6_secondAt : MethodName := ⟨RX6, "secondAt", "(I)I"⟩
abbrev cX6_thirdAt : ByteArray := prog_8_method_10_code
def yX6_thirdAt : MethodName := ⟨RX6, "thirdAt", "(I)I"⟩
abbrev cX6_startAt : ByteArray := prog_8_method_11_code
def yX6_startAt : MethodName := ⟨RX6, "startAt", "(I)I"⟩
abbrev cX6_addressOf : ByteArray := prog_8_method_12_code
def yX6_addressOf : MethodName := ⟨RX6, "addressOf", "(I)I"⟩
abbrev cX6_targetOf : ByteArray := prog_8_method_13_code
def yX6_targetOf : MethodName := ⟨RX6, "targetOf", "(I)I"⟩
abbrev cX6_targetsExist : ByteArray := prog_8_method_14_code
def yX6_targetsExist : MethodName := ⟨RX6, "targetsExist", "()Z"⟩
abbrev cX6_isAddressTaken : ByteArray := prog_8_method_15_code
def yX6_isAddressTaken : MethodName := ⟨RX6, "isAddressTaken", "(I)Z"⟩
abbrev cX6_bundleTargetAt : ByteArray := prog_8_method_16_code
def yX6_bundleTargetAt : MethodName := ⟨RX6, "bundleTargetAt", "(I)I"⟩
abbrev cX6_copyFrom : ByteArray := prog_8_method_17_code
def yX6_copyFrom : MethodName := ⟨RX6, "copyFrom", "(LFencedCode$Program;)V"⟩
def RX7 : String := "FencedCode$Rewriter"
def TX7 : u_T := fun k => match k with
  | 0 => ("FencedCode$Rewriter", "program", "LFencedCode$Program;", true)
  | 1 => ("FencedCode$Rewriter", "code", "LFencedCode$Code;", true)
  | _ => ("FencedCode$Rewriter", "at", "I", false)
def tyX7 : Nat → FieldType := fun k => match k with
  | 0 => .object "FencedCode$Program"
  | 1 => .object "FencedCode$Code"
  | _ => .int
abbrev wsX70 : List Cond := u_ws RX7 TX7 3
theorem nmX7 : ∀ a, a < 3 → ∀ b, b < 3 → a ≠ b → (TX7 a).2.1 ≠ (TX7 b).2.1 := by decide +kernel
theorem tyX7_ok : ∀ k, k < 3 → parseFieldDescriptor (TX7 k).2.2.1 = some (tyX7 k) := by decide +kernel
abbrev cX7_init : ByteArray := prog_9_method_1_code
def yX7_init : MethodName := ⟨RX7, "<init>", "(LFencedCode$Program;LFencedCode$Code;)V"⟩
abbrev cX7_writeAll : ByteArray := prog_9_method_2_code
def yX7_writeAll : MethodName := ⟨RX7, "writeAll", "()V"⟩
abbrev cX7_pad : ByteArray := prog_9_method_3_code
def yX7_pad : MethodName := ⟨RX7, "pad", "(I)V"⟩
abbrev cX7_writeLine : ByteArray := prog_9_method_4_code
def yX7_writeLine : MethodName := ⟨RX7, "writeLine", "(IIII)V"⟩
abbrev cX7_write : ByteArray := prog_9_method_5_code
def yX7_write : MethodName := ⟨RX7, "write", "(IIII)V"⟩
def RX8 : String := "FencedCode$Runner"
def TX8 : u_T := fun k => match k with
  | _ => ("", "", "", false)
def tyX8 : Nat → FieldType := fun k => match k with
  | _ => .int
abbrev wsX80 : List Cond := u_ws RX8 TX8 0
theorem nmX8 : ∀ a, a < 0 → ∀ b, b < 0 → a ≠ b → (TX8 a).2.1 ≠ (TX8 b).2.1 := by decide +kernel
theorem tyX8_ok : ∀ k, k < 0 → parseFieldDescriptor (TX8 k).2.2.1 = some (tyX8 k) := by decide +kernel
abbrev cX8_init : ByteArray := prog_10_method_1_code
def yX8_init : MethodName := ⟨RX8, "<init>", "(LFencedCode$Inputs;)V"⟩
abbrev cX8_go : ByteArray := prog_10_method_4_code
def yX8_go : MethodName := ⟨RX8, "go", "(I)I"⟩
abbrev cX8_forgetAll : ByteArray := prog_10_method_5_code
def yX8_forgetAll : MethodName := ⟨RX8, "forgetAll", "()V"⟩
abbrev cX8_get : ByteArray := prog_10_method_6_code
def yX8_get : MethodName := ⟨RX8, "get", "(I)I"⟩
abbrev cX8_set : ByteArray := prog_10_method_7_code
def yX8_set : MethodName := ⟨RX8, "set", "(II)V"⟩
abbrev cX8_wordAt : ByteArray := prog_10_method_8_code
def yX8_wordAt : MethodName := ⟨RX8, "wordAt", "(I)I"⟩
abbrev cX8_outputAt : ByteArray := prog_10_method_9_code
def yX8_outputAt : MethodName := ⟨RX8, "outputAt", "(I)I"⟩
abbrev cX8_readInput : ByteArray := prog_10_method_10_code
def yX8_readInput : MethodName := ⟨RX8, "readInput", "()V"⟩
abbrev cX8_writeOutput : ByteArray := prog_10_method_11_code
def yX8_writeOutput : MethodName := ⟨RX8, "writeOutput", "()V"⟩
abbrev cX8_compute : ByteArray := prog_10_method_12_code
def yX8_compute : MethodName := ⟨RX8, "compute", "(IIII)V"⟩
abbrev cX8_branches : ByteArray := prog_10_method_13_code
def yX8_branches : MethodName := ⟨RX8, "branches", "(III)Z"⟩
abbrev cX8_moves : ByteArray := prog_10_method_14_code
def yX8_moves : MethodName := ⟨RX8, "moves", "(IIII)Z"⟩
def RX9 : String := "FencedCode$Trial"
def TX9 : u_T := fun k => match k with
  | 0 => ("FencedCode$Runner", "inputs", "LFencedCode$Inputs;", true)
  | 1 => ("FencedCode$Runner", "registers", "[I", true)
  | 2 => ("FencedCode$Runner", "data", "[I", true)
  | 3 => ("FencedCode$Runner", "outputs", "[I", true)
  | 4 => ("FencedCode$Runner", "inputsRead", "I", false)
  | 5 => ("FencedCode$Runner", "outputCount", "I", false)
  | 6 => ("FencedCode$Runner", "steps", "I", false)
  | 7 => ("FencedCode$Runner", "place", "I", false)
  | _ => ("FencedCode$Trial", "program", "LFencedCode$Program;", true)
def tyX9 : Nat → FieldType := fun k => match k with
  | 0 => .object "FencedCode$Inputs"
  | 1 => .array .int
  | 2 => .array .int
  | 3 => .array .int
  | 4 => .int
  | 5 => .int
  | 6 => .int
  | 7 => .int
  | _ => .object "FencedCode$Program"
abbrev wsX90 : List Cond := u_ws RX9 TX9 9
theorem nmX9 : ∀ a, a < 9 → ∀ b, b < 9 → a ≠ b → (TX9 a).2.1 ≠ (TX9 b).2.1 := by decide +kernel
theorem tyX9_ok : ∀ k, k < 9 → parseFieldDescriptor (TX9 k).2.2.1 = some (tyX9 k) := by decide +kernel
abbrev cX9_init : ByteArray := prog_11_method_1_code
def yX9_init : MethodName := ⟨RX9, "<init>", "(LFencedCode$Program;LFencedCode$Inputs;)V"⟩
abbrev cX9_begin : ByteArray := prog_11_method_2_code
def yX9_begin : MethodName := ⟨RX9, "begin", "()V"⟩
abbrev cX9_step : ByteArray := prog_11_method_3_code
def yX9_step : MethodName := ⟨RX9, "step", "()I"⟩
abbrev cX9_leap : ByteArray := prog_11_method_4_code
def yX9_leap : MethodName := ⟨RX9, "leap", "(III)I"⟩
abbrev cX9_serve : ByteArray := prog_11_method_5_code
def yX9_serve : MethodName := ⟨RX9, "serve", "(II)I"⟩
def RX10 : String := "FencedCode"
def TX10 : u_T := fun k => match k with
  | 0 => ("FencedCode", "written", "LFencedCode$Program;", true)
  | 1 => ("FencedCode", "built", "LFencedCode$Program;", true)
  | 2 => ("FencedCode", "rewriter", "LFencedCode$Rewriter;", true)
  | 3 => ("FencedCode", "code", "LFencedCode$Code;", true)
  | 4 => ("FencedCode", "checker", "LFencedCode$Checker;", true)
  | 5 => ("FencedCode", "inputs", "LFencedCode$Inputs;", true)
  | 6 => ("FencedCode", "machine", "LFencedCode$Machine;", true)
  | 7 => ("FencedCode", "meant", "LFencedCode$Trial;", true)
  | _ => ("FencedCode", "everBuilt", "Z", false)
def tyX10 : Nat → FieldType := fun k => match k with
  | 0 => .object "FencedCode$Program"
  | 1 => .object "FencedCode$Program"
  | 2 => .object "FencedCode$Rewriter"
  | 3 => .object "FencedCode$Code"
  | 4 => .object "FencedCode$Checker"
  | 5 => .object "FencedCode$Inputs"
  | 6 => .object "FencedCode$Machine"
  | 7 => .object "FencedCode$Trial"
  | _ => .boolean
abbrev wsX100 : List Cond := u_ws RX10 TX10 9
theorem nmX10 : ∀ a, a < 9 → ∀ b, b < 9 → a ≠ b → (TX10 a).2.1 ≠ (TX10 b).2.1 := by decide +kernel
theorem tyX10_ok : ∀ k, k < 9 → parseFieldDescriptor (TX10 k).2.2.1 = some (tyX10 k) := by decide +kernel
abbrev cX10_init : ByteArray := prog_1_method_1_code
def yX10_init : MethodName := ⟨RX10, "<init>", "()V"⟩
abbrev cX10_encode : ByteArray := prog_1_method_2_code
def yX10_encode : MethodName := ⟨RX10, "encode", "(IIII)I"⟩
abbrev cX10_kind : ByteArray := prog_1_method_3_code
def yX10_kind : MethodName := ⟨RX10, "kind", "(I)I"⟩
abbrev cX10_line : ByteArray := prog_1_method_4_code
def yX10_line : MethodName := ⟨RX10, "line", "(IIII)I"⟩
abbrev cX10_clear : ByteArray := prog_1_method_5_code
def yX10_clear : MethodName := ⟨RX10, "clear", "()I"⟩
abbrev cX10_build : ByteArray := prog_1_method_6_code
def yX10_build : MethodName := ⟨RX10, "build", "()I"⟩
abbrev cX10_address : ByteArray := prog_1_method_7_code
def yX10_address : MethodName := ⟨RX10, "address", "(I)I"⟩
abbrev cX10_length : ByteArray := prog_1_method_8_code
def yX10_length : MethodName := ⟨RX10, "length", "(I)Z"⟩
abbrev cX10_poke : ByteArray := prog_1_method_9_code
def yX10_poke : MethodName := ⟨RX10, "poke", "(II)Z"⟩
abbrev cX10_peek : ByteArray := prog_1_method_10_code
def yX10_peek : MethodName := ⟨RX10, "peek", "(I)I"⟩
abbrev cX10_check : ByteArray := prog_1_method_11_code
def yX10_check : MethodName := ⟨RX10, "check", "()I"⟩
abbrev cX10_input : ByteArray := prog_1_method_12_code
def yX10_input : MethodName := ⟨RX10, "input", "(I)I"⟩
abbrev cX10_run : ByteArray := prog_1_method_13_code
def yX10_run : MethodName := ⟨RX10, "run", "(I)I"⟩
abbrev cX10_trial : ByteArray := prog_1_method_14_code
def yX10_trial : MethodName := ⟨RX10, "trial", "(I)I"⟩
abbrev cX10_state : ByteArray := prog_1_method_15_code
def yX10_state : MethodName := ⟨RX10, "state", "(II)I"⟩
abbrev cX10_output : ByteArray := prog_1_method_16_code
def yX10_output : MethodName := ⟨RX10, "output", "(II)I"⟩
abbrev cX10_register : ByteArray := prog_1_method_17_code
def yX10_register : MethodName := ⟨RX10, "register", "(II)I"⟩
abbrev cX10_word : ByteArray := prog_1_method_18_code
def yX10_word : MethodName := ⟨RX10, "word", "(II)I"⟩
abbrev cX10_runnerOf : ByteArray := prog_1_method_19_code
def yX10_runnerOf : MethodName := ⟨RX10, "runnerOf", "(I)LFencedCode$Runner;"⟩
abbrev cX10_within : ByteArray := prog_1_method_20_code
def yX10_within : MethodName := ⟨RX10, "within", "(III)Z"⟩
def RX11 : String := "FencedCodeModel"
def TX11 : u_T := fun k => match k with
  | 0 => ("FencedCodeModel", "lines", "I", false)
  | 1 => ("FencedCodeModel", "kindOf", "[I", true)
  | 2 => ("FencedCodeModel", "first", "[I", true)
  | 3 => ("FencedCodeModel", "second", "[I", true)
  | 4 => ("FencedCodeModel", "third", "[I", true)
  | 5 => ("FencedCodeModel", "built", "I", false)
  | 6 => ("FencedCodeModel", "isBuilt", "Z", false)
  | 7 => ("FencedCodeModel", "builtKind", "[I", true)
  | 8 => ("FencedCodeModel", "builtFirst", "[I", true)
  | 9 => ("FencedCodeModel", "builtSecond", "[I", true)
  | 10 => ("FencedCodeModel", "builtThird", "[I", true)
  | 11 => ("FencedCodeModel", "addresses", "[I", true)
  | 12 => ("FencedCodeModel", "places", "[I", true)
  | 13 => ("FencedCodeModel", "laid", "[I", true)
  | 14 => ("FencedCodeModel", "size", "I", false)
  | 15 => ("FencedCodeModel", "code", "[I", true)
  | 16 => ("FencedCodeModel", "begins", "[Z", true)
  | 17 => ("FencedCodeModel", "at", "I", false)
  | 18 => ("FencedCodeModel", "inputs", "I", false)
  | 19 => ("FencedCodeModel", "input", "[I", true)
  | 20 => ("FencedCodeModel", "registers", "[I", true)
  | 21 => ("FencedCodeModel", "words", "[I", true)
  | 22 => ("FencedCodeModel", "outputs", "[I", true)
  | 23 => ("FencedCodeModel", "outputCount", "[I", true)
  | 24 => ("FencedCodeModel", "steps", "[I", true)
  | 25 => ("FencedCodeModel", "stands", "[I", true)
  | 26 => ("FencedCodeModel", "ran", "[Z", true)
  | _ => ("FencedCodeModel", "taken", "I", false)
def tyX11 : Nat → FieldType := fun k => match k with
  | 0 => .int
  | 1 => .array .int
  | 2 => .array .int
  | 3 => .array .int
  | 4 => .array .int
  | 5 => .int
  | 6 => .boolean
  | 7 => .array .int
  | 8 => .array .int
  | 9 => .array .int
  | 10 => .array .int
  | 11 => .array .int
  | 12 => .array .int
  | 13 => .array .int
  | 14 => .int
  | 15 => .array .int
  | 16 => .array .boolean
  | 17 => .int
  | 18 => .int
  | 19 => .array .int
  | 20 => .array .int
  | 21 => .array .int
  | 22 => .array .int
  | 23 => .array .int
  | 24 => .array .int
  | 25 => .array .int
  | 26 => .array .boolean
  | _ => .int
abbrev wsX110 : List Cond := u_ws RX11 TX11 28
theorem nmX11 : ∀ a, a < 28 → ∀ b, b < 28 → a ≠ b → (TX11 a).2.1 ≠ (TX11 b).2.1 := by decide +kernel
theorem tyX11_ok : ∀ k, k < 28 → parseFieldDescriptor (TX11 k).2.2.1 = some (tyX11 k) := by decide +kernel
abbrev cX11_init : ByteArray := prog_13_method_1_code
def yX11_init : MethodName := ⟨RX11, "<init>", "()V"⟩
abbrev cX11_outside : ByteArray := prog_13_method_2_code
def yX11_outside : MethodName := ⟨RX11, "outside", "(III)Z"⟩
abbrev cX11_notRegister : ByteArray := prog_13_method_3_code
def yX11_notRegister : MethodName := ⟨RX11, "notRegister", "(I)Z"⟩
abbrev cX11_typeR : ByteArray := prog_13_method_4_code
def yX11_typeR : MethodName := ⟨RX11, "typeR", "(IIIIII)I"⟩
abbrev cX11_typeI : ByteArray := prog_13_method_5_code
def yX11_typeI : MethodName := ⟨RX11, "typeI", "(IIIII)I"⟩
abbrev cX11_branch : ByteArray := prog_13_method_6_code
def yX11_branch : MethodName := ⟨RX11, "branch", "(IIII)I"⟩
abbrev cX11_jump : ByteArray := prog_13_method_7_code
def yX11_jump : MethodName := ⟨RX11, "jump", "(II)I"⟩
abbrev cX11_fits : ByteArray := prog_13_method_8_code
def yX11_fits : MethodName := ⟨RX11, "fits", "(IIII)Z"⟩
abbrev cX11_made : ByteArray := prog_13_method_9_code
def yX11_made : MethodName := ⟨RX11, "made", "(IIII)I"⟩
abbrev cX11_encode : ByteArray := prog_13_method_10_code
def yX11_encode : MethodName := ⟨RX11, "encode", "(IIII)I"⟩
abbrev cX11_fieldA : ByteArray := prog_13_method_11_code
def yX11_fieldA : MethodName := ⟨RX11, "fieldA", "(II)I"⟩
abbrev cX11_fieldB : ByteArray := prog_13_method_12_code
def yX11_fieldB : MethodName := ⟨RX11, "fieldB", "(II)I"⟩
abbrev cX11_fieldC : ByteArray := prog_13_method_13_code
def yX11_fieldC : MethodName := ⟨RX11, "fieldC", "(II)I"⟩
abbrev cX11_isLong : ByteArray := prog_13_method_14_code
def yX11_isLong : MethodName := ⟨RX11, "isLong", "(I)Z"⟩
abbrev cX11_kind : ByteArray := prog_13_method_15_code
def yX11_kind : MethodName := ⟨RX11, "kind", "(I)I"⟩
abbrev cX11_notOwn : ByteArray := prog_13_method_16_code
def yX11_notOwn : MethodName := ⟨RX11, "notOwn", "(I)Z"⟩
abbrev cX11_notTarget : ByteArray := prog_13_method_17_code
def yX11_notTarget : MethodName := ⟨RX11, "notTarget", "(I)Z"⟩
abbrev cX11_isLine : ByteArray := prog_13_method_18_code
def yX11_isLine : MethodName := ⟨RX11, "isLine", "(IIII)Z"⟩
abbrev cX11_line : ByteArray := prog_13_method_19_code
def yX11_line : MethodName := ⟨RX11, "line", "(IIII)I"⟩
abbrev cX11_clear : ByteArray := prog_13_method_20_code
def yX11_clear : MethodName := ⟨RX11, "clear", "()I"⟩
abbrev cX11_targetOf : ByteArray := prog_13_method_21_code
def yX11_targetOf : MethodName := ⟨RX11, "targetOf", "(I)I"⟩
abbrev cX11_isAimed : ByteArray := prog_13_method_22_code
def yX11_isAimed : MethodName := ⟨RX11, "isAimed", "(I)Z"⟩
abbrev cX11_sizeOf : ByteArray := prog_13_method_23_code
def yX11_sizeOf : MethodName := ⟨RX11, "sizeOf", "(I)I"⟩
abbrev cX11_ends : ByteArray := prog_13_method_24_code
def yX11_ends : MethodName := ⟨RX11, "ends", "(I)Z"⟩
abbrev cX11_rest : ByteArray := prog_13_method_25_code
def yX11_rest : MethodName := ⟨RX11, "rest", "(I)I"⟩
abbrev cX11_layOut : ByteArray := prog_13_method_26_code
def yX11_layOut : MethodName := ⟨RX11, "layOut", "()I"⟩
abbrev cX11_put : ByteArray := prog_13_method_27_code
def yX11_put : MethodName := ⟨RX11, "put", "(II)V"⟩
abbrev cX11_pad : ByteArray := prog_13_method_28_code
def yX11_pad : MethodName := ⟨RX11, "pad", "(I)V"⟩
abbrev cX11_write : ByteArray := prog_13_method_29_code
def yX11_write : MethodName := ⟨RX11, "write", "(I)V"⟩
abbrev cX11_build : ByteArray := prog_13_method_30_code
def yX11_build : MethodName := ⟨RX11, "build", "()I"⟩
abbrev cX11_address : ByteArray := prog_13_method_31_code
def yX11_address : MethodName := ⟨RX11, "address", "(I)I"⟩
abbrev cX11_length : ByteArray := prog_13_method_32_code
def yX11_length : MethodName := ⟨RX11, "length", "(I)Z"⟩
abbrev cX11_poke : ByteArray := prog_13_method_33_code
def yX11_poke : MethodName := ⟨RX11, "poke", "(II)Z"⟩
abbrev cX11_peek : ByteArray := prog_13_method_34_code
def yX11_peek : MethodName := ⟨RX11, "peek", "(I)I"⟩
abbrev cX11_byteAt : ByteArray := prog_13_method_35_code
def yX11_byteAt : MethodName := ⟨RX11, "byteAt", "(I)I"⟩
abbrev cX11_bitsAt : ByteArray := prog_13_method_36_code
def yX11_bitsAt : MethodName := ⟨RX11, "bitsAt", "(I)I"⟩
abbrev cX11_bytesOf : ByteArray := prog_13_method_37_code
def yX11_bytesOf : MethodName := ⟨RX11, "bytesOf", "(I)I"⟩
abbrev cX11_isBefore : ByteArray := prog_13_method_38_code
def yX11_isBefore : MethodName := ⟨RX11, "isBefore", "(IIZ)Z"⟩
abbrev cX11_before : ByteArray := prog_13_method_39_code
def yX11_before : MethodName := ⟨RX11, "before", "(I)I"⟩
abbrev cX11_spoils : ByteArray := prog_13_method_40_code
def yX11_spoils : MethodName := ⟨RX11, "spoils", "(II)Z"⟩
abbrev cX11_lands : ByteArray := prog_13_method_41_code
def yX11_lands : MethodName := ⟨RX11, "lands", "(I)Z"⟩
abbrev cX11_right : ByteArray := prog_13_method_42_code
def yX11_right : MethodName := ⟨RX11, "right", "(I)Z"⟩
abbrev cX11_check : ByteArray := prog_13_method_43_code
def yX11_check : MethodName := ⟨RX11, "check", "()I"⟩
abbrev cX11_input : ByteArray := prog_13_method_44_code
def yX11_input : MethodName := ⟨RX11, "input", "(I)I"⟩
abbrev cX11_anew : ByteArray := prog_13_method_45_code
def yX11_anew : MethodName := ⟨RX11, "anew", "(I)V"⟩
abbrev cX11_set : ByteArray := prog_13_method_46_code
def yX11_set : MethodName := ⟨RX11, "set", "(III)V"⟩
abbrev cX11_get : ByteArray := prog_13_method_47_code
def yX11_get : MethodName := ⟨RX11, "get", "(II)I"⟩
abbrev cX11_serve : ByteArray := prog_13_method_48_code
def yX11_serve : MethodName := ⟨RX11, "serve", "(II)V"⟩
abbrev cX11_reckon : ByteArray := prog_13_method_49_code
def yX11_reckon : MethodName := ⟨RX11, "reckon", "(IIIII)V"⟩
abbrev cX11_holds : ByteArray := prog_13_method_50_code
def yX11_holds : MethodName := ⟨RX11, "holds", "(IIII)Z"⟩
abbrev cX11_moved : ByteArray := prog_13_method_51_code
def yX11_moved : MethodName := ⟨RX11, "moved", "(IIIII)Z"⟩
abbrev cX11_step : ByteArray := prog_13_method_52_code
def yX11_step : MethodName := ⟨RX11, "step", "()I"⟩
abbrev cX11_run : ByteArray := prog_13_method_53_code
def yX11_run : MethodName := ⟨RX11, "run", "(I)I"⟩
abbrev cX11_lineAt : ByteArray := prog_13_method_54_code
def yX11_lineAt : MethodName := ⟨RX11, "lineAt", "(I)I"⟩
abbrev cX11_lineDone : ByteArray := prog_13_method_55_code
def yX11_lineDone : MethodName := ⟨RX11, "lineDone", "()I"⟩
abbrev cX11_trial : ByteArray := prog_13_method_56_code
def yX11_trial : MethodName := ⟨RX11, "trial", "(I)I"⟩
abbrev cX11_state : ByteArray := prog_13_method_57_code
def yX11_state : MethodName := ⟨RX11, "state", "(II)I"⟩
abbrev cX11_output : ByteArray := prog_13_method_58_code
def yX11_output : MethodName := ⟨RX11, "output", "(II)I"⟩
abbrev cX11_register : ByteArray := prog_13_method_59_code
def yX11_register : MethodName := ⟨RX11, "register", "(II)I"⟩
abbrev cX11_word : ByteArray := prog_13_method_60_code
def yX11_word : MethodName := ⟨RX11, "word", "(II)I"⟩
def RJ9 : String := "java/lang/Math"
def TJ9 : u_T := fun k => match k with
  | _ => ("", "", "", false)
def tyJ9 : Nat → FieldType := fun k => match k with
  | _ => .int
abbrev wsJ90 : List Cond := u_ws RJ9 TJ9 0
theorem nmJ9 : ∀ a, a < 0 → ∀ b, b < 0 → a ≠ b → (TJ9 a).2.1 ≠ (TJ9 b).2.1 := by decide +kernel
theorem tyJ9_ok : ∀ k, k < 0 → parseFieldDescriptor (TJ9 k).2.2.1 = some (tyJ9 k) := by decide +kernel
abbrev cJ9_min_7cf53 : ByteArray := prog_14_method_69_code
def yJ9_min_7cf53 : MethodName := ⟨RJ9, "min", "(II)I"⟩
def RJ10 : String := "java/lang/System"
def TJ10 : u_T := fun k => match k with
  | _ => ("", "", "", false)
def tyJ10 : Nat → FieldType := fun k => match k with
  | _ => .int
abbrev wsJ100 : List Cond := u_ws RJ10 TJ10 0
theorem nmJ10 : ∀ a, a < 0 → ∀ b, b < 0 → a ≠ b → (TJ10 a).2.1 ≠ (TJ10 b).2.1 := by decide +kernel
theorem tyJ10_ok : ∀ k, k < 0 → parseFieldDescriptor (TJ10 k).2.2.1 = some (tyJ10 k) := by decide +kernel
def RL : String := "FencedCodeLaw"
abbrev cL_law : ByteArray := code
def yL_law : MethodName := ⟨RL, "law", "([I)Z"⟩
abbrev vwCl : List vw_C := [(RX0, TX0, 4), (RX1, TX1, 2), (RX3, TX3, 2), (RX5, TX5, 9), (RX6, TX6, 8), (RX7, TX7, 3), (RX9, TX9, 9), (RX10, TX10, 9), (RX11, TX11, 28)]
end
section
/-! THE SMALL MACHINE: worlds as lists of cells, references as places in the list; a cell's address is the base and its place. -/
abbrev am_Cl : Type := (Bool × Nat × (Nat → Int32)) ⊕ (Nat × List Value)
def am_v (b : Nat) : Value → Value
  | .ref i => .ref (b + i)
  | v => v
def am_e (cI cZ : ClassId) (b : Nat) : am_Cl → va_E
  | .inl (z, n, f) => .inl (cond z cZ cI, n, .inl f)
  | .inr (c, fs) => .inr (c, fs.map (am_v b))
def am_H (D : va_G) (cI cZ : ClassId) (b : Nat) (ab : List am_Cl) (H : Heap) : Prop :=
  H.size = b + ab.length ∧ ∀ (i : Nat) (c : am_Cl), ab[i]? = some c → va_at D vwCl (b + i, am_e cI cZ b c) H
def am_gw : List Cond := lw_tbl.filter goodWord
def am_isb : Cond → Bool
  | .methodLinkNest .. => true
  | .declares .. => true
  | _ => false
def am_bw : List Cond := lw_tbl.filter am_isb
def am_K (D : va_G) (cI cZ : ClassId) (U : State) : Prop := va_K D vwCl [(cI, .int), (cZ, .boolean)] U ∧ ∀ w ∈ am_bw, va_Nw w U
/-- a method: its name, code, locals, answer, room -/
abbrev am_Sg : Type := MethodName × ByteArray × Nat × Option FieldType × Room
abbrev am_y (S : am_Sg) : MethodName := S.1
abbrev am_c (S : am_Sg) : ByteArray := S.2.1
abbrev am_l (S : am_Sg) : Nat := S.2.2.1
abbrev am_r (S : am_Sg) : Option FieldType := S.2.2.2.1
abbrev am_rm (S : am_Sg) : Room := S.2.2.2.2
abbrev am_cw (S : am_Sg) : Cond := Cond.code (am_y S) (am_c S) (am_l S) (am_r S)
def am_Q (D : va_G) (cI cZ : ClassId) (b : Nat) (r : Option Value) (ab' : List am_Cl) : Array Value → State → Outcome → State → Prop := fun _ st o t => o = .returned (r.map (am_v b)) ∧ am_H D cI cZ b ab' t.heap ∧ va_F (fun q => b ≤ q) st t
def am_Ev (S : am_Sg) (as : List Value) (ab : List am_Cl) (r : Option Value) (ab' : List am_Cl) : Prop :=
  am_cw S ∈ am_gw ∧ ∀ (l : Launch) (D : va_G) (cI cZ : ClassId) (b : Nat), Met l (am_y S) (am_cw S :: am_gw) (am_rm S) (fun a U => a = (as.map (am_v b)).toArray ∧ am_H D cI cZ b ab U.heap ∧ am_K D cI cZ U) (am_Q D cI cZ b r ab') (am_rm S).cells (am_rm S).slots (fun q => b ≤ q)
def am_Cx (S : am_Sg) (D : va_G) (cI cZ : ClassId) (b : Nat) (p : Program) (s : State) (m : MethodId) (args : Array Value) (meth : Method) (c : Code) : Prop :=
  p.tables.exec = Jvm.exec ∧ c.code = am_c S ∧ meth.sig.returnType = am_r S ∧ meth.locks = false ∧ c.maxLocals = am_l S ∧ s.vm.findClass (am_y S).cls = some m.cls ∧ meth.name = (am_y S).name ∧ (∀ w ∈ am_gw, w.before args s = true) ∧ am_K D cI cZ s ∧ b ≤ s.heap.size
/-- locals: what is known of them -/
def am_ok : Value → Bool
  | .int _ => true
  | .ref _ => true
  | .null => true
  | _ => false
def am_lv (b : Nat) (L : List Value) : List (Nat × Value) := (L.zipIdx.filter (fun q => am_ok q.1)).map (fun q => (q.2, am_v b q.1))
def am_T (S : am_Sg) (r : Option Value) (ab' : List am_Cl) (pc : Nat) (L st : List Value) (ab : List am_Cl) (k n : Nat) : Prop :=
  ∀ (l : Launch) (D : va_G) (cI cZ : ClassId) (b : Nat) (p : Program) (e : Env) (s : State) (m : MethodId) (args : Array Value) (below : List Frame) (meth : Method) (c : Code) (H : Heap) (locs : List Loc) (ls : Array Slot),
    am_Cx S D cI cZ b p s m args meth c → am_H D cI cZ b ab H → va_S (fun q => b ≤ q) s.heap H locs → lv_has ls (am_l S) (am_lv b L) → L.length = am_l S →
    W p l e (am_rm S) s m args below meth c H locs k n (MQ below (am_Q D cI cZ b r ab') args s (am_rm S).cells (am_rm S).slots (fun q => b ≤ q)) (F0 m pc ls (st.map (am_v b)))
/-- a row: the instruction, a number, a literal, a name, classes, callees by class, a switch's targets, places of words -/
abbrev am_Rw : Type := Instr × Nat × Int32 × String × List Nat × List (Nat × am_Sg) × List (Int32 × Nat) × List Nat
abbrev rw0 (i : Instr) : am_Rw := (i, 0, 0, "", [], [], [], [])
abbrev rwN (i : Instr) (k : Nat) : am_Rw := (i, k, 0, "", [], [], [], [])
abbrev rwL (i : Instr) (v : Int32) : am_Rw := (i, 0, v, "", [], [], [], [])
abbrev rwA (i : Instr) (k : Nat) (v : Int32) : am_Rw := (i, k, v, "", [], [], [], [])
abbrev rwP (i : Instr) (v : Int32) (ps : List Nat) : am_Rw := (i, 0, v, "", [], [], [], ps)
abbrev rwF (i : Instr) (k : Nat) (v : Int32) (r : String) (cs : List Nat) (ps : List Nat) : am_Rw := (i, k, v, r, cs, [], [], ps)
abbrev rwC (i : Instr) (k : Nat) (r : String) (qs : List (Nat × am_Sg)) (ps : List Nat) : am_Rw := (i, k, 0, r, [], qs, [], ps)
abbrev rwS (i : Instr) (d : Nat) (sw : List (Int32 × Nat)) : am_Rw := (i, d, 0, "", [], [], sw, [])
abbrev w_k (w : am_Rw) : Nat := w.2.1
abbrev w_v (w : am_Rw) : Int32 := w.2.2.1
abbrev w_r (w : am_Rw) : String := w.2.2.2.1
abbrev w_cs (w : am_Rw) : List Nat := w.2.2.2.2.1
abbrev w_qs (w : am_Rw) : List (Nat × am_Sg) := w.2.2.2.2.2.1
abbrev w_sw (w : am_Rw) : List (Int32 × Nat) := w.2.2.2.2.2.2.1
abbrev w_ps (w : am_Rw) : List Nat := w.2.2.2.2.2.2.2
abbrev am_Cd : Type := List (Nat × List (Nat × am_Rw))
def am_fr (pc : Nat) : List (Nat × am_Rw) → Option (Nat × am_Rw)
  | [] => none
  | q :: l => cond (Nat.beq q.1 pc) (some q) (am_fr pc l)
def am_lk (pc : Nat) : am_Cd → Option (Nat × am_Rw)
  | [] => none
  | q :: l => cond (Nat.blt pc q.1) (am_fr pc q.2) (am_lk pc l)
abbrev am_Ps : Type := Nat → List Value → List Value → List am_Cl → Nat → Nat → Prop
/-- forward: walk on; backward: stop -/
def am_go (K Tt : am_Ps) (pc t : Nat) (L st : List Value) (ab : List am_Cl) (k n : Nat) : Prop := cond (Nat.blt pc t) (K t L st ab k n) (Tt t L st ab k n)
def am_br (c : Prop) (A B : Prop) : Prop := (c → A) ∧ (¬ c → B)
def am_sw (K Tt : am_Ps) (pc d : Nat) (x : Int32) (L st : List Value) (ab : List am_Cl) (k n : Nat) : List (Int32 × Nat) → Prop
  | [] => am_go K Tt pc d L st ab k n
  | q :: l => am_br (x = q.1) (am_go K Tt pc q.2 L st ab k n) (am_sw K Tt pc d x L st ab k n l)
def am_ic (c : ClassFile.Cond) (x y : Int32) (A B : Prop) : Prop := match c with
  | .eq => am_br (x = y) A B
  | .ne => am_br (x = y) B A
  | .lt => am_br (x < y) A B
  | .ge => am_br (y ≤ x) A B
  | .gt => am_br (y < x) A B
  | .le => am_br (x ≤ y) A B
def am_ls : List am_Cl → Nat → Option am_Cl
  | [], _ => none
  | c :: _, 0 => some c
  | _ :: l, i + 1 => am_ls l i
def am_up : List am_Cl → Nat → am_Cl → List am_Cl
  | [], _, _ => []
  | _ :: l, 0, d => d :: l
  | c :: l, i + 1, d => c :: am_up l i d
def am_vs : List Value → Nat → Option Value
  | [], _ => none
  | c :: _, 0 => some c
  | _ :: l, i + 1 => am_vs l i
def am_vu : List Value → Nat → Value → List Value
  | [], _, _ => []
  | _ :: l, 0, d => d :: l
  | c :: l, i + 1, d => c :: am_vu l i d
def am_cl : List (Nat × am_Sg) → Nat → Option am_Sg
  | [], _ => none
  | q :: l, c => cond (Nat.beq q.1 c) (some q.2) (am_cl l c)
def am_in : List Nat → Nat → Bool
  | [], _ => false
  | q :: l, c => cond (Nat.beq q c) true (am_in l c)
def am_tk : Nat → List Value → List Value → Option (List Value × List Value)
  | 0, acc, st => some (acc, st)
  | n + 1, acc, v :: st => am_tk n (v :: acc) st
  | _ + 1, _, [] => none
def am_ct : List Value → Nat
  | [] => 0
  | v :: l => v.category + am_ct l
/-- the default cells of a class's objects -/
def am_df : Nat → List Value
  | 0 => [.null, .int 0, .int 0, .null]
  | 1 => [.null, .int 0]
  | 2 => [.null, .int 0]
  | 3 => [.null, .null, .null, .null, .int 0, .int 0, .int 0, .int 0, .null]
  | 4 => [.null, .null, .null, .null, .null, .null, .int 0, .int 0]
  | 5 => [.null, .null, .int 0]
  | 6 => [.null, .null, .null, .null, .int 0, .int 0, .int 0, .int 0, .null]
  | 7 => [.null, .null, .null, .null, .null, .null, .null, .null, .int 0]
  | 8 => (List.range 28).map (fun j => match tyX11 j with | .int => .int 0 | .boolean => .int 0 | _ => .null)
  | _ => []
/-- a value that a field of this sort may get -/
def am_fv (sort : Int32) : Value → Bool
  | .int x => decide (sort = 0) || (decide (sort = 1) && (decide (x = 0) || decide (x = 1)))
  | .ref _ => decide (sort = 2)
  | .null => decide (sort = 2)
  | _ => false
/-- a call: what the callee's contract gives -/
def am_cal (S q : am_Sg) (K : am_Ps) (pc : Nat) (as : List Value) (L rest : List Value) (ab : List am_Cl) (k n : Nat) : Prop :=
  cond (Nat.ble (am_ct rest) 8 && Nat.ble (k + (am_rm q).cells) (am_rm S).cells && Nat.ble (n + (am_rm q).slots) (am_rm S).slots)
    (∃ (v : Option Value) (ab1 : List am_Cl), am_Ev q as ab v ab1 ∧ cond (Nat.beq (am_rm q).cells 0 && Nat.beq (am_rm q).slots 0) (K pc L (v.toList ++ rest) ab1 k n) (K pc L (v.toList ++ rest) ab1 (k + (am_rm q).cells) (n + (am_rm q).slots)))
    False
/-- one instruction -/
def am_s1 (S : am_Sg) (r : Option Value) (ab' : List am_Cl) (Tt K : am_Ps) (w : am_Rw) : am_Ps := fun pc L st ab k n => match w.1 with
  | .iconst _ => K (pc + 1) L (.int (w_v w) :: st) ab k n
  | .bipush _ => K (pc + 2) L (.int (w_v w) :: st) ab k n
  | .sipush _ => K (pc + 3) L (.int (w_v w) :: st) ab k n
  | .ldc _ => K (pc + 2) L (.int (w_v w) :: st) ab k n
  | .iload_n i => match am_vs L i.val with
    | some (.int x) => K (pc + 1) L (.int x :: st) ab k n
    | _ => False
  | .iload i => match am_vs L i with
    | some (.int x) => K (pc + 2) L (.int x :: st) ab k n
    | _ => False
  | .aload_n i => match am_vs L i.val with
    | some (.ref x) => K (pc + 1) L (.ref x :: st) ab k n
    | some .null => K (pc + 1) L (.null :: st) ab k n
    | _ => False
  | .istore_n i => match st with
    | .int x :: rest => match am_vs L i.val with
      | some _ => K (pc + 1) (am_vu L i.val (.int x)) rest ab k n
      | none => False
    | _ => False
  | .istore i => match st with
    | .int x :: rest => match am_vs L i with
      | some _ => K (pc + 2) (am_vu L i (.int x)) rest ab k n
      | none => False
    | _ => False
  | .astore_n i => match st with
    | .ref x :: rest => match am_vs L i.val with
      | some _ => K (pc + 1) (am_vu L i.val (.ref x)) rest ab k n
      | none => False
    | .null :: rest => match am_vs L i.val with
      | some _ => K (pc + 1) (am_vu L i.val .null) rest ab k n
      | none => False
    | _ => False
  | .iinc i _ => match am_vs L i with
    | some (.int x) => K (pc + 3) (am_vu L i (.int (x + w_v w))) st ab k n
    | _ => False
  | .iadd => match st with
    | .int y :: .int x :: rest => K (pc + 1) L (.int (x + y) :: rest) ab k n
    | _ => False
  | .isub => match st with
    | .int y :: .int x :: rest => K (pc + 1) L (.int (x - y) :: rest) ab k n
    | _ => False
  | .imul => match st with
    | .int y :: .int x :: rest => K (pc + 1) L (.int (x * y) :: rest) ab k n
    | _ => False
  | .idiv => match st with
    | .int y :: .int x :: rest => cond (decide (y = 0)) False (K (pc + 1) L (.int (x / y) :: rest) ab k n)
    | _ => False
  | .irem => match st with
    | .int y :: .int x :: rest => cond (decide (y = 0)) False (K (pc + 1) L (.int (x - x / y * y) :: rest) ab k n)
    | _ => False
  | .iand => match st with
    | .int y :: .int x :: rest => K (pc + 1) L (.int (x &&& y) :: rest) ab k n
    | _ => False
  | .ior => match st with
    | .int y :: .int x :: rest => K (pc + 1) L (.int (x ||| y) :: rest) ab k n
    | _ => False
  | .ishl => match st with
    | .int y :: .int x :: rest => K (pc + 1) L (.int (x <<< (y &&& 31)) :: rest) ab k n
    | _ => False
  | .ishr => match st with
    | .int y :: .int x :: rest => K (pc + 1) L (.int (x >>> (y &&& 31)) :: rest) ab k n
    | _ => False
  | .iushr => match st with
    | .int y :: .int x :: rest => K (pc + 1) L (.int (x.toUInt32 >>> (y.toUInt32 &&& Int32.toUInt32 31)).toInt32 :: rest) ab k n
    | _ => False
  | .dup => match st with
    | v :: rest => cond (am_ok v) (K (pc + 1) L (v :: v :: rest) ab k n) False
    | _ => False
  | .dup2 => match st with
    | u :: v :: rest => cond (am_ok u && am_ok v) (K (pc + 1) L (u :: v :: u :: v :: rest) ab k n) False
    | _ => False
  | .pop => match st with
    | v :: rest => cond (am_ok v) (K (pc + 1) L rest ab k n) False
    | _ => False
  | .aconst_null => K (pc + 1) L (.null :: st) ab k n
  | .if_icmp c _ => match st with
    | .int y :: .int x :: rest => am_ic c x y (am_go K Tt pc (w_k w) L rest ab k n) (K (pc + 3) L rest ab k n)
    | _ => False
  | .ifCond c _ => match st with
    | .int x :: rest => am_ic c x 0 (am_go K Tt pc (w_k w) L rest ab k n) (K (pc + 3) L rest ab k n)
    | _ => False
  | .ifnonnull _ => match st with
    | .ref _ :: rest => am_go K Tt pc (w_k w) L rest ab k n
    | .null :: rest => K (pc + 3) L rest ab k n
    | _ => False
  | .goto _ => am_go K Tt pc (w_k w) L st ab k n
  | .tableswitch _ _ _ _ => match st with
    | .int x :: rest => am_sw K Tt pc (w_k w) x L rest ab k n (w_sw w)
    | _ => False
  | .lookupswitch _ _ => match st with
    | .int x :: rest => am_sw K Tt pc (w_k w) x L rest ab k n (w_sw w)
    | _ => False
  | .getfield _ => match st with
    | .ref i :: rest => match am_ls ab i with
      | some (.inr (ci, fs)) => cond (am_in (w_cs w) ci) (match am_vs fs (w_k w) with
        | some v => K (pc + 3) L (v :: rest) ab k n
        | none => False) False
      | _ => False
    | _ => False
  | .putfield _ => match st with
    | v :: .ref i :: rest => match am_ls ab i with
      | some (.inr (ci, fs)) => cond (am_in (w_cs w) ci && am_fv (w_v w) v) (match am_vs fs (w_k w) with
        | some _ => K (pc + 3) L rest (am_up ab i (.inr (ci, am_vu fs (w_k w) v))) k n
        | none => False) False
      | _ => False
    | _ => False
  | .iaload => match st with
    | .int j :: .ref i :: rest => match am_ls ab i with
      | some (.inl (false, N, f)) => vp_in j N ∧ K (pc + 1) L (.int (f j.toNatClampNeg) :: rest) ab k n
      | _ => False
    | _ => False
  | .iastore => match st with
    | .int x :: .int j :: .ref i :: rest => match am_ls ab i with
      | some (.inl (false, N, f)) => vp_in j N ∧ K (pc + 1) L rest (am_up ab i (.inl (false, N, upd f j.toNatClampNeg x))) k n
      | _ => False
    | _ => False
  | .baload => match st with
    | .int j :: .ref i :: rest => match am_ls ab i with
      | some (.inl (true, N, f)) => vp_in j N ∧ K (pc + 1) L (.int (f j.toNatClampNeg) :: rest) ab k n
      | _ => False
    | _ => False
  | .bastore => match st with
    | .int x :: .int j :: .ref i :: rest => match am_ls ab i with
      | some (.inl (true, N, f)) => vp_in j N ∧ K (pc + 1) L rest (am_up ab i (.inl (true, N, upd f j.toNatClampNeg (vp_nar .boolean x)))) k n
      | _ => False
    | _ => False
  | .newarray t => match st with
    | .int c :: rest => cond (decide (c = w_v w) && Nat.ble (k + 1) (am_rm S).cells && Nat.ble (n + w_k w) (am_rm S).slots) (K (pc + 2) L (.ref ab.length :: rest) (ab ++ [.inl (decide (t = .boolean), w_k w, fun _ => 0)]) (k + 1) (n + w_k w)) False
    | _ => False
  | .new _ => cond (Nat.ble (k + 1) (am_rm S).cells && Nat.ble (n + (am_df (w_k w)).length) (am_rm S).slots) (K (pc + 3) L (.ref ab.length :: st) (ab ++ [.inr (w_k w, am_df (w_k w))]) (k + 1) (n + (am_df (w_k w)).length)) False
  | .invokestatic _ => match w_qs w with
    | q :: _ => match am_tk (w_k w) [] st with
      | some (as, rest) => am_cal S q.2 K (pc + 3) as L rest ab k n
      | none => False
    | [] => match w_cs w with
      | [] => match st with
        | .int y :: .int x :: rest => cond (Nat.ble (am_ct rest) 8 && Nat.ble k (am_rm S).cells && Nat.ble n (am_rm S).slots) (K (pc + 3) L (.int (if y < x then y else x) :: rest) ab k n) False
        | _ => False
      | _ => match st with
        | .int c :: .int dp :: .ref a1 :: .int sp :: .ref a0 :: rest => match am_ls ab a0, am_ls ab a1 with
          | some (.inl (false, n0, f)), some (.inl (false, n1, g)) => cond (Nat.ble (am_ct rest) 8 && decide (c = w_v w) && decide (dp = 0) && decide (sp = 0) && Nat.ble (w_k w) n0 && Nat.ble (w_k w) n1) (K (pc + 3) L rest (am_up ab a1 (.inl (false, n1, va_cpy f g 0 0 (w_k w)))) k n) False
          | _, _ => False
        | _ => False
  | .invokevirtual _ => match am_tk (w_k w) [] st with
    | some (as, .ref i :: rest) => match am_ls ab i with
      | some (.inr (ci, _)) => match am_cl (w_qs w) ci with
        | some q => am_cal S q K (pc + 3) (.ref i :: as) L rest ab k n
        | none => False
      | _ => False
    | _ => False
  | .invokespecial _ => match w_qs w with
    | q :: _ => match am_tk (w_k w) [] st with
      | some (as, .ref i :: rest) => am_cal S q.2 K (pc + 3) (.ref i :: as) L rest ab k n
      | _ => False
    | [] => match st with
      | .ref _ :: rest => cond (Nat.ble (am_ct rest) 8) (K (pc + 3) L rest ab k n) False
      | _ => False
  | .ireturn => match st with
    | [.int x] => cond (Nat.ble k (am_rm S).cells && Nat.ble n (am_rm S).slots) (r = some (.int x) ∧ ab' = ab ∧ ∃ ty, am_r S = some ty ∧ narrow ty (.int x) = .int x) False
    | _ => False
  | .return_ => match st with
    | [] => cond (Nat.ble k (am_rm S).cells && Nat.ble n (am_rm S).slots) (r = none ∧ ab' = ab ∧ am_r S = none) False
    | _ => False
  | .areturn => match st with
    | [v] => cond (Nat.ble k (am_rm S).cells && Nat.ble n (am_rm S).slots && am_fv 2 v) (r = some v ∧ ab' = ab ∧ ∃ nm, am_r S = some (.object nm)) False
    | _ => False
  | _ => False
def am_wp (S : am_Sg) (cd : am_Cd) (r : Option Value) (ab' : List am_Cl) : Nat → am_Ps
  | 0 => am_T S r ab'
  | f + 1 => fun pc L st ab k n => match am_lk pc cd with
    | some q => am_s1 S r ab' (am_T S r ab') (am_wp S cd r ab' f) q.2 q.1 L st ab k n
    | none => False
end
section
/-! soundness of the small machine: lists, locals, worlds -/
theorem am_vs_eq : ∀ (L : List Value) (i : Nat), am_vs L i = L[i]?
  | [], i => by simp [am_vs]
  | c :: l, 0 => by simp [am_vs]
  | c :: l, i + 1 => by rw [am_vs, am_vs_eq l i]; simp
theorem am_vu_eq : ∀ (L : List Value) (i : Nat) (v : Value), am_vu L i v = L.set i v
  | [], i, v => by simp [am_vu]
  | c :: l, 0, v => by simp [am_vu]
  | c :: l, i + 1, v => by rw [am_vu, am_vu_eq l i v]; simp
theorem am_ls_eq : ∀ (L : List am_Cl) (i : Nat), am_ls L i = L[i]?
  | [], i => by simp [am_ls]
  | c :: l, 0 => by simp [am_ls]
  | c :: l, i + 1 => by rw [am_ls, am_ls_eq l i]; simp
theorem am_up_eq : ∀ (L : List am_Cl) (i : Nat) (v : am_Cl), am_up L i v = L.set i v
  | [], i, v => by simp [am_up]
  | c :: l, 0, v => by simp [am_up]
  | c :: l, i + 1, v => by rw [am_up, am_up_eq l i v]; simp
theorem am_cl_mem : ∀ {l : List (Nat × am_Sg)} {c : Nat} {q : am_Sg}, am_cl l c = some q → (c, q) ∈ l
  | [], c, q, h => by simp [am_cl] at h
  | a :: l, c, q, h => by
    rw [am_cl] at h
    cases hb : Nat.beq a.1 c with
    | true =>
      rw [hb] at h
      have e : a.1 = c := Nat.eq_of_beq_eq_true hb
      have e2 : a.2 = q := by simpa using h
      rw [← e, ← e2]
      exact List.mem_cons_self
    | false =>
      rw [hb] at h
      exact List.mem_cons_of_mem _ (am_cl_mem (by simpa using h))
theorem am_in_mem : ∀ {l : List Nat} {c : Nat}, am_in l c = true → c ∈ l
  | [], c, h => by simp [am_in] at h
  | a :: l, c, h => by
    rw [am_in] at h
    cases hb : Nat.beq a c with
    | true => rw [Nat.eq_of_beq_eq_true hb]; exact List.mem_cons_self
    | false => rw [hb] at h; exact List.mem_cons_of_mem _ (am_in_mem (by simpa using h))
theorem am_tk_eq : ∀ {n : Nat} {acc st as rest : List Value}, am_tk n acc st = some (as, rest) → ∃ us, us.length = n ∧ st = us ++ rest ∧ as = us.reverse ++ acc
  | 0, acc, st, as, rest, h => by
    simp [am_tk] at h
    exact ⟨[], rfl, by simp [h.2], by simp [h.1]⟩
  | n + 1, acc, [], as, rest, h => by simp [am_tk] at h
  | n + 1, acc, v :: st, as, rest, h => by
    rw [am_tk] at h
    obtain ⟨us, h1, h2, h3⟩ := am_tk_eq h
    exact ⟨v :: us, by simp [h1], by simp [h2], by simp [h3]⟩
theorem am_tk_len {n : Nat} {st as rest : List Value} (h : am_tk n [] st = some (as, rest)) : as.length = n ∧ st = as.reverse ++ rest := by
  obtain ⟨us, h1, h2, h3⟩ := am_tk_eq h
  simp at h3
  subst h3
  simp [h1, h2]
theorem am_v_cat (b : Nat) (v : Value) : (am_v b v).category = v.category := by cases v <;> rfl
theorem am_ct_eq (b : Nat) : ∀ st : List Value, ((st.map (am_v b)).map fun v => v.category).sum = am_ct st
  | [] => rfl
  | v :: l => by
    have := am_ct_eq b l
    simp only [List.map_cons, List.sum_cons, am_ct, am_v_cat] at this ⊢
    omega
theorem am_ok_cat {v : Value} (h : am_ok v = true) : v.category = 1 := by cases v <;> simp_all [am_ok, Value.category]
theorem am_lv_mem {b : Nat} {L : List Value} {i : Nat} {v : Value} (h : L[i]? = some v) (ho : am_ok v = true) : (i, am_v b v) ∈ am_lv b L := by
  refine List.mem_map.mpr ⟨(v, i), List.mem_filter.mpr ⟨?_, ho⟩, rfl⟩
  exact List.mk_mem_zipIdx_iff_getElem?.mpr h
theorem am_lv_inv {b : Nat} {L : List Value} {q : Nat × Value} (h : q ∈ am_lv b L) : ∃ v, L[q.1]? = some v ∧ am_ok v = true ∧ q.2 = am_v b v := by
  obtain ⟨⟨v, i⟩, h1, rfl⟩ := List.mem_map.mp h
  obtain ⟨h2, h3⟩ := List.mem_filter.mp h1
  exact ⟨v, List.mk_mem_zipIdx_iff_getElem?.mp h2, h3, rfl⟩
theorem am_lget {b nL : Nat} {ls : Array Slot} {L : List Value} (h : lv_has ls nL (am_lv b L)) {i : Nat} {v : Value} (hv : am_vs L i = some v) (ho : am_ok v = true) : ls[i]? = some (.val (am_v b v)) := by
  rw [am_vs_eq] at hv
  exact h.2.2 (i, am_v b v) (am_lv_mem hv ho)
theorem am_lput {b nL : Nat} {ls : Array Slot} {L : List Value} {i : Nat} {v u : Value} (hu : am_vs L i = some u) (ho : am_ok v = true)
    (h : lv_has ls nL ((i, am_v b v) :: (am_lv b L).filter (fun q => !(q.1 == i) && !(q.1 + 1 == i && q.2.category == 2)))) : lv_has ls nL (am_lv b (am_vu L i v)) := by
  refine ⟨h.1, h.2.1, fun q hq => h.2.2 q ?_⟩
  rw [am_vu_eq] at hq
  rw [am_vs_eq] at hu
  have hi : i < L.length := (List.getElem?_eq_some_iff.mp hu).1
  obtain ⟨w, h1, h2, h3⟩ := am_lv_inv hq
  by_cases hj : q.1 = i
  · rw [hj, List.getElem?_set_self hi] at h1
    cases h1
    have : q = (i, am_v b v) := by rw [← hj, ← h3]
    rw [this]
    exact List.mem_cons_self
  · rw [List.getElem?_set_ne (Ne.symm hj)] at h1
    refine List.mem_cons_of_mem _ (List.mem_filter.mpr ⟨?_, ?_⟩)
    · have : q = (q.1, am_v b w) := by rw [← h3]
      rw [this]
      exact am_lv_mem h1 h2
    · have h4 : q.2.category = 1 := by rw [h3, am_v_cat, am_ok_cat h2]
      simp [hj, h4]
theorem am_vu_len {L : List Value} {i : Nat} {v : Value} {n : Nat} (h : L.length = n) : (am_vu L i v).length = n := by rw [am_vu_eq]; simp [h]
/-- words -/
theorem am_mem {i : Nat} {w : Cond} (h : lw_tbl[i]? = some w) (hg : goodWord w = true) : w ∈ am_gw := List.mem_filter.mpr ⟨List.mem_of_getElem? h, hg⟩
theorem am_memb {i : Nat} {w : Cond} (h : lw_tbl[i]? = some w) (hg : am_isb w = true) : w ∈ am_bw := List.mem_filter.mpr ⟨List.mem_of_getElem? h, hg⟩
theorem am_good {c : Cond} (hc : c ∈ am_gw) : GoodIn am_gw (c :: am_gw) := by
  intro w hw
  have h : w ∈ am_gw := by
    rcases List.mem_cons.mp hw with h | h
    · rw [h]; exact hc
    · exact h
  exact ⟨h, good_of_word (List.mem_filter.mp h).2⟩
theorem am_K_warm {D : va_G} {cI cZ : ClassId} {s U : State} (hW : s.WarmedH U.vm) (h : am_K D cI cZ s) : am_K D cI cZ U := by
  refine ⟨va_K.moved hW.alike h.1, fun w hw => ?_⟩
  have h1 := h.2 w hw
  have h4 := (List.mem_filter.mp hw).2
  cases w <;> first | exact va_Nw.warmM hW h1 | exact va_Nw.warmD hW h1 | (simp [am_isb] at h4; done)
theorem am_bw_tab {w : Cond} (hw : w ∈ am_bw) : w.onTables = true := by
  have h4 := (List.mem_filter.mp hw).2
  cases w <;> first | rfl | (simp [am_isb] at h4; done)
theorem am_K_call {D : va_G} {cI cZ : ClassId} {U V : State} (hv : U.vm = V.vm) (h : am_K D cI cZ U) : am_K D cI cZ V := by
  refine ⟨va_K.moved (by rw [← hv]; exact Vm.Alike.refl U.vm) h.1, fun w hw => ?_⟩
  exact va_Nw.same (am_bw_tab hw) hv (h.2 w hw)
/-- the world as the kit has it -/
def am_ws (cI cZ : ClassId) (b : Nat) (ab : List am_Cl) : va_W := ab.mapIdx (fun i c => (b + i, am_e cI cZ b c))
theorem am_ws_at {cI cZ : ClassId} {b : Nat} {ab : List am_Cl} {i : Nat} {c : am_Cl} (h : ab[i]? = some c) : (am_ws cI cZ b ab)[i]? = some (b + i, am_e cI cZ b c) := by
  unfold am_ws
  rw [List.getElem?_mapIdx, h]
  rfl
theorem am_P {D : va_G} {cI cZ : ClassId} {b : Nat} {ab : List am_Cl} {H : Heap} (h : am_H D cI cZ b ab H) : va_P D vwCl (am_ws cI cZ b ab) H := by
  intro k q hk
  unfold am_ws at hk
  rw [List.getElem?_mapIdx] at hk
  cases hc : ab[k]? with
  | none => rw [hc] at hk; cases hk
  | some c =>
    rw [hc] at hk
    cases hk
    exact h.2 k c hc
/-- a cell is written -/
theorem am_H_set {D : va_G} {cI cZ : ClassId} {b : Nat} {ab : List am_Cl} {H H1 : Heap} {i : Nat} {c0 c : am_Cl} (h : am_H D cI cZ b ab H) (hi : am_ls ab i = some c0) (hz : H1.size = H.size) (hc : va_at D vwCl (b + i, am_e cI cZ b c) H1) (oq : ∀ q, q ≠ b + i → H1[q]? = H[q]?) : am_H D cI cZ b (am_up ab i c) H1 := by
  rw [am_ls_eq] at hi
  have hl := (List.getElem?_eq_some_iff.mp hi).1
  rw [am_up_eq]
  refine ⟨by rw [hz, h.1]; simp, fun j d hj => ?_⟩
  by_cases hij : j = i
  · subst hij
    rw [List.getElem?_set_self hl] at hj
    cases hj
    exact hc
  · rw [List.getElem?_set_ne (Ne.symm hij)] at hj
    exact (h.2 j d hj).kept (oq _ (by show b + j ≠ b + i; omega))
/-- a cell is made -/
theorem am_H_new {D : va_G} {cI cZ : ClassId} {b : Nat} {ab : List am_Cl} {H H1 : Heap} {c : am_Cl} (h : am_H D cI cZ b ab H) (hz : H1.size = H.size + 1) (hc : va_at D vwCl (b + ab.length, am_e cI cZ b c) H1) (oq : ∀ q, q < H.size → H1[q]? = H[q]?) : am_H D cI cZ b (ab ++ [c]) H1 := by
  refine ⟨by rw [hz, h.1]; simp; omega, fun j d hj => ?_⟩
  by_cases hl : j < ab.length
  · rw [List.getElem?_append_left hl] at hj
    exact (h.2 j d hj).kept (oq _ (by rw [h.1]; show b + j < _; omega))
  · rw [List.getElem?_append_right (by omega)] at hj
    have hz2 : j - ab.length < 1 := (List.getElem?_eq_some_iff.mp hj).1
    have e : j = ab.length := by omega
    subst e
    simp at hj
    subst hj
    exact hc
theorem am_S_put {b : Nat} {H0 H H1 : Heap} {locs : List Loc} {i k : Nat} (h : va_S (fun q => b ≤ q) H0 H locs) (z : H1.size = H.size) (oq : ∀ q : Nat, q ≠ b + i → H1[q]? = H[q]?) : va_S (fun q => b ≤ q) H0 H1 (locs ++ [⟨b + i, k⟩]) := h.put z oq (Nat.le_add_right b i)
theorem am_S_new {b : Nat} {H0 H H1 : Heap} {locs : List Loc} (h : va_S (fun q => b ≤ q) H0 H locs) (z : H1.size = H.size + 1) (oq : ∀ q : Nat, q < H.size → H1[q]? = H[q]?) : va_S (fun q => b ≤ q) H0 H1 locs := ⟨by have := h.1; omega, fun q h1 h2 => by rw [oq q (Nat.lt_of_lt_of_le h1 h.1)]; exact h.2.1 q h1 h2, h.2.2⟩
end
section
/-! soundness of the small machine: an instruction, a row -/
section AMI
variable {S : am_Sg} {r : Option Value} {ab' : List am_Cl} {pc : Nat} {L rest : List Value} {ab : List am_Cl} {k n : Nat}
theorem am_t_iconst {i : Int} {v : Int32} (hd : decode (am_c S) pc = .ok (.iconst i, 1)) (hv : Int32.ofInt i = v) (hk : am_T S r ab' (pc + 1) L (.int v :: rest) ab k n) : am_T S r ab' pc L (rest) ab k n := by
  intro l D cI cZ b p e s m args below meth c H locs ls hC hH hS hL hlen
  exact lv_iconst hC.1 hC.2.1 hd hv (hk l D cI cZ b p e s m args below meth c H locs ls hC hH hS hL hlen)
theorem am_t_bipush {i : Int} {v : Int32} (hd : decode (am_c S) pc = .ok (.bipush i, 2)) (hv : (Int8.ofInt i).toInt32 = v) (hk : am_T S r ab' (pc + 2) L (.int v :: rest) ab k n) : am_T S r ab' pc L (rest) ab k n := by
  intro l D cI cZ b p e s m args below meth c H locs ls hC hH hS hL hlen
  exact lv_bipush hC.1 hC.2.1 hd hv (hk l D cI cZ b p e s m args below meth c H locs ls hC hH hS hL hlen)
theorem am_t_sipush {i : Int} {v : Int32} (hd : decode (am_c S) pc = .ok (.sipush i, 3)) (hv : (Int16.ofInt i).toInt32 = v) (hk : am_T S r ab' (pc + 3) L (.int v :: rest) ab k n) : am_T S r ab' pc L (rest) ab k n := by
  intro l D cI cZ b p e s m args below meth c H locs ls hC hH hS hL hlen
  exact lv_sipush hC.1 hC.2.1 hd hv (hk l D cI cZ b p e s m args below meth c H locs ls hC hH hS hL hlen)
theorem am_t_ldc {i : Nat} {v : Int32} (hd : decode (am_c S) pc = .ok (.ldc i, 2)) (hw : Cond.constant (am_y S).cls i v ∈ am_gw) (hk : am_T S r ab' (pc + 2) L (.int v :: rest) ab k n) : am_T S r ab' pc L (rest) ab k n := by
  intro l D cI cZ b p e s m args below meth c H locs ls hC hH hS hL hlen
  exact lv_ldc hC.1 hC.2.1 hC.2.2.2.2.2.1 (hC.2.2.2.2.2.2.2.1 _ hw) hd (hk l D cI cZ b p e s m args below meth c H locs ls hC hH hS hL hlen)
theorem am_t_iload_n {i : Fin 4} {x : Int32} (hd : decode (am_c S) pc = .ok (.iload_n i, 1)) (hx : am_vs L i.val = some (.int x)) (hk : am_T S r ab' (pc + 1) L (.int x :: rest) ab k n) : am_T S r ab' pc L (rest) ab k n := by
  intro l D cI cZ b p e s m args below meth c H locs ls hC hH hS hL hlen
  exact lv_iload_n hC.1 hC.2.1 hd rfl (am_lget hL hx rfl) (hk l D cI cZ b p e s m args below meth c H locs ls hC hH hS hL hlen)
theorem am_t_iload {i : Nat} {x : Int32} (hd : decode (am_c S) pc = .ok (.iload i, 2)) (hx : am_vs L i = some (.int x)) (hk : am_T S r ab' (pc + 2) L (.int x :: rest) ab k n) : am_T S r ab' pc L (rest) ab k n := by
  intro l D cI cZ b p e s m args below meth c H locs ls hC hH hS hL hlen
  exact lv_iload hC.1 hC.2.1 hd (am_lget hL hx rfl) (hk l D cI cZ b p e s m args below meth c H locs ls hC hH hS hL hlen)
theorem am_t_aload_n {i : Fin 4} {x : Nat} (hd : decode (am_c S) pc = .ok (.aload_n i, 1)) (hx : am_vs L i.val = some (.ref x)) (hk : am_T S r ab' (pc + 1) L (.ref x :: rest) ab k n) : am_T S r ab' pc L (rest) ab k n := by
  intro l D cI cZ b p e s m args below meth c H locs ls hC hH hS hL hlen
  exact lv_aload_n hC.1 hC.2.1 hd rfl (am_lget hL hx rfl) (hk l D cI cZ b p e s m args below meth c H locs ls hC hH hS hL hlen)
theorem am_t_aload_nN {i : Fin 4} (hd : decode (am_c S) pc = .ok (.aload_n i, 1)) (hx : am_vs L i.val = some .null) (hk : am_T S r ab' (pc + 1) L (.null :: rest) ab k n) : am_T S r ab' pc L (rest) ab k n := by
  intro l D cI cZ b p e s m args below meth c H locs ls hC hH hS hL hlen
  exact lv_aload_nN hC.1 hC.2.1 hd rfl (am_lget hL hx rfl) (hk l D cI cZ b p e s m args below meth c H locs ls hC hH hS hL hlen)
theorem am_t_istore_n {i : Fin 4} {x : Int32} {u : Value} (hd : decode (am_c S) pc = .ok (.istore_n i, 1)) (hu : am_vs L i.val = some u) (hk : am_T S r ab' (pc + 1) (am_vu L i.val (.int x)) rest ab k n) : am_T S r ab' pc L (.int x :: rest) ab k n := by
  intro l D cI cZ b p e s m args below meth c H locs ls hC hH hS hL hlen
  exact lv_istore_n hC.1 hC.2.1 hd rfl hL (by rw [← hlen]; rw [am_vs_eq] at hu; exact (List.getElem?_eq_some_iff.mp hu).1) rfl (fun ls' hl' => hk l D cI cZ b p e s m args below meth c H locs ls' hC hH hS (am_lput hu rfl hl') (am_vu_len hlen))
theorem am_t_istore {i : Nat} {x : Int32} {u : Value} (hd : decode (am_c S) pc = .ok (.istore i, 2)) (hu : am_vs L i = some u) (hk : am_T S r ab' (pc + 2) (am_vu L i (.int x)) rest ab k n) : am_T S r ab' pc L (.int x :: rest) ab k n := by
  intro l D cI cZ b p e s m args below meth c H locs ls hC hH hS hL hlen
  exact lv_istore hC.1 hC.2.1 hd hL (by rw [← hlen]; rw [am_vs_eq] at hu; exact (List.getElem?_eq_some_iff.mp hu).1) rfl (fun ls' hl' => hk l D cI cZ b p e s m args below meth c H locs ls' hC hH hS (am_lput hu rfl hl') (am_vu_len hlen))
theorem am_t_astore_n {i : Fin 4} {x : Nat} {u : Value} (hd : decode (am_c S) pc = .ok (.astore_n i, 1)) (hu : am_vs L i.val = some u) (hk : am_T S r ab' (pc + 1) (am_vu L i.val (.ref x)) rest ab k n) : am_T S r ab' pc L (.ref x :: rest) ab k n := by
  intro l D cI cZ b p e s m args below meth c H locs ls hC hH hS hL hlen
  exact lv_astore_n hC.1 hC.2.1 hd rfl hL (by rw [← hlen]; rw [am_vs_eq] at hu; exact (List.getElem?_eq_some_iff.mp hu).1) rfl (fun ls' hl' => hk l D cI cZ b p e s m args below meth c H locs ls' hC hH hS (am_lput hu rfl hl') (am_vu_len hlen))
theorem am_t_astore_nN {i : Fin 4} {u : Value} (hd : decode (am_c S) pc = .ok (.astore_n i, 1)) (hu : am_vs L i.val = some u) (hk : am_T S r ab' (pc + 1) (am_vu L i.val .null) rest ab k n) : am_T S r ab' pc L (.null :: rest) ab k n := by
  intro l D cI cZ b p e s m args below meth c H locs ls hC hH hS hL hlen
  exact lv_astore_nN hC.1 hC.2.1 hd rfl hL (by rw [← hlen]; rw [am_vs_eq] at hu; exact (List.getElem?_eq_some_iff.mp hu).1) rfl (fun ls' hl' => hk l D cI cZ b p e s m args below meth c H locs ls' hC hH hS (am_lput hu rfl hl') (am_vu_len hlen))
theorem am_t_iinc {i : Nat} {d : Int} {v x : Int32} (hd : decode (am_c S) pc = .ok (.iinc i d, 3)) (hv : Int32.ofInt d = v) (hu : am_vs L i = some (.int x)) (hk : am_T S r ab' (pc + 3) (am_vu L i (.int (x + v))) rest ab k n) : am_T S r ab' pc L (rest) ab k n := by
  intro l D cI cZ b p e s m args below meth c H locs ls hC hH hS hL hlen
  have hm : (i, Value.int x) ∈ am_lv b L := am_lv_mem (b := b) (by rw [← am_vs_eq]; exact hu) rfl
  obtain ⟨j, hj⟩ := List.getElem?_of_mem hm
  exact lv_iinc (v := x + v) hC.1 hC.2.1 hd hL hj (by rw [hv]) (by rw [← hlen]; rw [am_vs_eq] at hu; exact (List.getElem?_eq_some_iff.mp hu).1) rfl (fun ls' hl' => hk l D cI cZ b p e s m args below meth c H locs ls' hC hH hS (am_lput (v := .int (x + v)) hu rfl hl') (am_vu_len hlen))
theorem am_t_iadd {x y : Int32} (hd : decode (am_c S) pc = .ok (.iadd, 1)) (hk : am_T S r ab' (pc + 1) L (.int (x + y) :: rest) ab k n) : am_T S r ab' pc L (.int y :: .int x :: rest) ab k n := by
  intro l D cI cZ b p e s m args below meth c H locs ls hC hH hS hL hlen
  exact lv_iadd hC.1 hC.2.1 hd (hk l D cI cZ b p e s m args below meth c H locs ls hC hH hS hL hlen)
theorem am_t_isub {x y : Int32} (hd : decode (am_c S) pc = .ok (.isub, 1)) (hk : am_T S r ab' (pc + 1) L (.int (x - y) :: rest) ab k n) : am_T S r ab' pc L (.int y :: .int x :: rest) ab k n := by
  intro l D cI cZ b p e s m args below meth c H locs ls hC hH hS hL hlen
  exact lv_isub hC.1 hC.2.1 hd (hk l D cI cZ b p e s m args below meth c H locs ls hC hH hS hL hlen)
theorem am_t_imul {x y : Int32} (hd : decode (am_c S) pc = .ok (.imul, 1)) (hk : am_T S r ab' (pc + 1) L (.int (x * y) :: rest) ab k n) : am_T S r ab' pc L (.int y :: .int x :: rest) ab k n := by
  intro l D cI cZ b p e s m args below meth c H locs ls hC hH hS hL hlen
  exact lv_imul hC.1 hC.2.1 hd (hk l D cI cZ b p e s m args below meth c H locs ls hC hH hS hL hlen)
theorem am_t_iand {x y : Int32} (hd : decode (am_c S) pc = .ok (.iand, 1)) (hk : am_T S r ab' (pc + 1) L (.int (x &&& y) :: rest) ab k n) : am_T S r ab' pc L (.int y :: .int x :: rest) ab k n := by
  intro l D cI cZ b p e s m args below meth c H locs ls hC hH hS hL hlen
  exact lv_iand hC.1 hC.2.1 hd (hk l D cI cZ b p e s m args below meth c H locs ls hC hH hS hL hlen)
theorem am_t_ior {x y : Int32} (hd : decode (am_c S) pc = .ok (.ior, 1)) (hk : am_T S r ab' (pc + 1) L (.int (x ||| y) :: rest) ab k n) : am_T S r ab' pc L (.int y :: .int x :: rest) ab k n := by
  intro l D cI cZ b p e s m args below meth c H locs ls hC hH hS hL hlen
  exact lv_ior hC.1 hC.2.1 hd (hk l D cI cZ b p e s m args below meth c H locs ls hC hH hS hL hlen)
theorem am_t_ishl {x y : Int32} (hd : decode (am_c S) pc = .ok (.ishl, 1)) (hk : am_T S r ab' (pc + 1) L (.int (x <<< (y &&& 31)) :: rest) ab k n) : am_T S r ab' pc L (.int y :: .int x :: rest) ab k n := by
  intro l D cI cZ b p e s m args below meth c H locs ls hC hH hS hL hlen
  exact lv_ishl hC.1 hC.2.1 hd (hk l D cI cZ b p e s m args below meth c H locs ls hC hH hS hL hlen)
theorem am_t_ishr {x y : Int32} (hd : decode (am_c S) pc = .ok (.ishr, 1)) (hk : am_T S r ab' (pc + 1) L (.int (x >>> (y &&& 31)) :: rest) ab k n) : am_T S r ab' pc L (.int y :: .int x :: rest) ab k n := by
  intro l D cI cZ b p e s m args below meth c H locs ls hC hH hS hL hlen
  exact lv_ishr hC.1 hC.2.1 hd (hk l D cI cZ b p e s m args below meth c H locs ls hC hH hS hL hlen)
theorem am_t_iushr {x y : Int32} (hd : decode (am_c S) pc = .ok (.iushr, 1)) (hk : am_T S r ab' (pc + 1) L (.int (x.toUInt32 >>> (y.toUInt32 &&& Int32.toUInt32 31)).toInt32 :: rest) ab k n) : am_T S r ab' pc L (.int y :: .int x :: rest) ab k n := by
  intro l D cI cZ b p e s m args below meth c H locs ls hC hH hS hL hlen
  exact lv_iushr hC.1 hC.2.1 hd rfl (hk l D cI cZ b p e s m args below meth c H locs ls hC hH hS hL hlen)
theorem am_t_idiv {x y : Int32} (hd : decode (am_c S) pc = .ok (.idiv, 1)) (hy : ¬ y = 0) (hk : am_T S r ab' (pc + 1) L (.int (x / y) :: rest) ab k n) : am_T S r ab' pc L (.int y :: .int x :: rest) ab k n := by
  intro l D cI cZ b p e s m args below meth c H locs ls hC hH hS hL hlen
  exact lv_idiv hC.1 hC.2.1 hd hy (hk l D cI cZ b p e s m args below meth c H locs ls hC hH hS hL hlen)
theorem am_t_irem {x y : Int32} (hd : decode (am_c S) pc = .ok (.irem, 1)) (hy : ¬ y = 0) (hk : am_T S r ab' (pc + 1) L (.int (x - x / y * y) :: rest) ab k n) : am_T S r ab' pc L (.int y :: .int x :: rest) ab k n := by
  intro l D cI cZ b p e s m args below meth c H locs ls hC hH hS hL hlen
  exact lv_irem hC.1 hC.2.1 hd hy (hk l D cI cZ b p e s m args below meth c H locs ls hC hH hS hL hlen)
theorem am_t_dup {v : Value} (hd : decode (am_c S) pc = .ok (.dup, 1)) (hv : am_ok v = true) (hk : am_T S r ab' (pc + 1) L (v :: v :: rest) ab k n) : am_T S r ab' pc L (v :: rest) ab k n := by
  intro l D cI cZ b p e s m args below meth c H locs ls hC hH hS hL hlen
  exact lv_dup hC.1 hC.2.1 hd (by rw [am_v_cat]; exact am_ok_cat hv) (hk l D cI cZ b p e s m args below meth c H locs ls hC hH hS hL hlen)
theorem am_t_dup2 {u v : Value} (hd : decode (am_c S) pc = .ok (.dup2, 1)) (hu : am_ok u = true) (hv : am_ok v = true) (hk : am_T S r ab' (pc + 1) L (u :: v :: u :: v :: rest) ab k n) : am_T S r ab' pc L (u :: v :: rest) ab k n := by
  intro l D cI cZ b p e s m args below meth c H locs ls hC hH hS hL hlen
  exact lv_dup2_11 hC.1 hC.2.1 hd (by rw [am_v_cat]; exact am_ok_cat hu) (by rw [am_v_cat]; exact am_ok_cat hv) (hk l D cI cZ b p e s m args below meth c H locs ls hC hH hS hL hlen)
theorem am_t_pop {v : Value} (hd : decode (am_c S) pc = .ok (.pop, 1)) (hv : am_ok v = true) (hk : am_T S r ab' (pc + 1) L rest ab k n) : am_T S r ab' pc L (v :: rest) ab k n := by
  intro l D cI cZ b p e s m args below meth c H locs ls hC hH hS hL hlen
  exact lv_pop hC.1 hC.2.1 hd (by rw [am_v_cat]; exact am_ok_cat hv) (hk l D cI cZ b p e s m args below meth c H locs ls hC hH hS hL hlen)
theorem am_t_null (hd : decode (am_c S) pc = .ok (.aconst_null, 1)) (hk : am_T S r ab' (pc + 1) L (.null :: rest) ab k n) : am_T S r ab' pc L (rest) ab k n := by
  intro l D cI cZ b p e s m args below meth c H locs ls hC hH hS hL hlen
  exact lv_null hC.1 hC.2.1 hd (hk l D cI cZ b p e s m args below meth c H locs ls hC hH hS hL hlen)
theorem am_t_goto {o : Int} {t : Nat} (hd : decode (am_c S) pc = .ok (.goto o, 3)) (ht : (pc : Int) + o = (t : Int)) (hk : am_T S r ab' t L rest ab k n) : am_T S r ab' pc L (rest) ab k n := by
  intro l D cI cZ b p e s m args below meth c H locs ls hC hH hS hL hlen
  exact lv_goto hC.1 hC.2.1 hd ht (hk l D cI cZ b p e s m args below meth c H locs ls hC hH hS hL hlen)
theorem am_t_ifnonnull {o : Int} {t x : Nat} (hd : decode (am_c S) pc = .ok (.ifnonnull o, 3)) (ht : (pc : Int) + o = (t : Int)) (hk : am_T S r ab' t L rest ab k n) : am_T S r ab' pc L (.ref x :: rest) ab k n := by
  intro l D cI cZ b p e s m args below meth c H locs ls hC hH hS hL hlen
  exact lv_ifnonnull hC.1 hC.2.1 hd ht (hk l D cI cZ b p e s m args below meth c H locs ls hC hH hS hL hlen)
theorem am_t_ifnonnullN {o : Int} (hd : decode (am_c S) pc = .ok (.ifnonnull o, 3)) (hk : am_T S r ab' (pc + 3) L rest ab k n) : am_T S r ab' pc L (.null :: rest) ab k n := by
  intro l D cI cZ b p e s m args below meth c H locs ls hC hH hS hL hlen
  exact lv_ifnonnullN hC.1 hC.2.1 hd (hk l D cI cZ b p e s m args below meth c H locs ls hC hH hS hL hlen)
theorem am_t_icmp {x y : Int32} {cc : ClassFile.Cond} {o : Int} {t : Nat} (hd : decode (am_c S) pc = .ok (.if_icmp cc o, 3)) (ht : (pc : Int) + o = (t : Int)) (hk : am_ic cc x y (am_T S r ab' t L rest ab k n) (am_T S r ab' (pc + 3) L rest ab k n)) : am_T S r ab' pc L (.int y :: .int x :: rest) ab k n := by
  intro l D cI cZ b p e s m args below meth c H locs ls hC hH hS hL hlen
  cases cc with
  | eq => exact lv_icmp_eq hC.1 hC.2.1 hd ht (fun h => hk.1 h l D cI cZ b p e s m args below meth c H locs ls hC hH hS hL hlen) (fun h => hk.2 h l D cI cZ b p e s m args below meth c H locs ls hC hH hS hL hlen)
  | ne => exact lv_icmp_ne hC.1 hC.2.1 hd ht (fun h => hk.2 h l D cI cZ b p e s m args below meth c H locs ls hC hH hS hL hlen) (fun h => hk.1 h l D cI cZ b p e s m args below meth c H locs ls hC hH hS hL hlen)
  | lt => exact lv_icmp_lt hC.1 hC.2.1 hd ht (fun h => hk.1 h l D cI cZ b p e s m args below meth c H locs ls hC hH hS hL hlen) (fun h => hk.2 h l D cI cZ b p e s m args below meth c H locs ls hC hH hS hL hlen)
  | ge => exact lv_icmp_ge hC.1 hC.2.1 hd ht (fun h => hk.1 h l D cI cZ b p e s m args below meth c H locs ls hC hH hS hL hlen) (fun h => hk.2 h l D cI cZ b p e s m args below meth c H locs ls hC hH hS hL hlen)
  | gt => exact lv_icmp_gt hC.1 hC.2.1 hd ht (fun h => hk.1 h l D cI cZ b p e s m args below meth c H locs ls hC hH hS hL hlen) (fun h => hk.2 h l D cI cZ b p e s m args below meth c H locs ls hC hH hS hL hlen)
  | le => exact lv_icmp_le hC.1 hC.2.1 hd ht (fun h => hk.1 h l D cI cZ b p e s m args below meth c H locs ls hC hH hS hL hlen) (fun h => hk.2 h l D cI cZ b p e s m args below meth c H locs ls hC hH hS hL hlen)
theorem am_t_if {x : Int32} {cc : ClassFile.Cond} {o : Int} {t : Nat} (hd : decode (am_c S) pc = .ok (.ifCond cc o, 3)) (ht : (pc : Int) + o = (t : Int)) (hk : am_ic cc x (0 : Int32) (am_T S r ab' t L rest ab k n) (am_T S r ab' (pc + 3) L rest ab k n)) : am_T S r ab' pc L (.int x :: rest) ab k n := by
  intro l D cI cZ b p e s m args below meth c H locs ls hC hH hS hL hlen
  cases cc with
  | eq => exact lv_if_eq hC.1 hC.2.1 hd ht (fun h => hk.1 h l D cI cZ b p e s m args below meth c H locs ls hC hH hS hL hlen) (fun h => hk.2 h l D cI cZ b p e s m args below meth c H locs ls hC hH hS hL hlen)
  | ne => exact lv_if_ne hC.1 hC.2.1 hd ht (fun h => hk.2 h l D cI cZ b p e s m args below meth c H locs ls hC hH hS hL hlen) (fun h => hk.1 h l D cI cZ b p e s m args below meth c H locs ls hC hH hS hL hlen)
  | lt => exact lv_if_lt hC.1 hC.2.1 hd ht (fun h => hk.1 h l D cI cZ b p e s m args below meth c H locs ls hC hH hS hL hlen) (fun h => hk.2 h l D cI cZ b p e s m args below meth c H locs ls hC hH hS hL hlen)
  | ge => exact lv_if_ge hC.1 hC.2.1 hd ht (fun h => hk.1 h l D cI cZ b p e s m args below meth c H locs ls hC hH hS hL hlen) (fun h => hk.2 h l D cI cZ b p e s m args below meth c H locs ls hC hH hS hL hlen)
  | gt => exact lv_if_gt hC.1 hC.2.1 hd ht (fun h => hk.1 h l D cI cZ b p e s m args below meth c H locs ls hC hH hS hL hlen) (fun h => hk.2 h l D cI cZ b p e s m args below meth c H locs ls hC hH hS hL hlen)
  | le => exact lv_if_le hC.1 hC.2.1 hd ht (fun h => hk.1 h l D cI cZ b p e s m args below meth c H locs ls hC hH hS hL hlen) (fun h => hk.2 h l D cI cZ b p e s m args below meth c H locs ls hC hH hS hL hlen)
theorem am_t_iaload {j : Int32} {i N : Nat} {f : Nat → Int32} (hd : decode (am_c S) pc = .ok (.iaload, 1)) (hc : am_ls ab i = some (.inl (false, N, f))) (hj : vp_in j N) (hk : am_T S r ab' (pc + 1) L (.int (f j.toNatClampNeg) :: rest) ab k n) : am_T S r ab' pc L (.int j :: .ref i :: rest) ab k n := by
  intro l D cI cZ b p e s m args below meth c H locs ls hC hH hS hL hlen
  exact va_iald hC.1 hC.2.1 hC.2.2.2.2.2.2.2.2.1.1 (am_P hH) i 0 (am_ws_at (by rw [← am_ls_eq]; exact hc)) rfl hj hd (hk l D cI cZ b p e s m args below meth c H locs ls hC hH hS hL hlen)
theorem am_t_baload {j : Int32} {i N : Nat} {f : Nat → Int32} (hd : decode (am_c S) pc = .ok (.baload, 1)) (hc : am_ls ab i = some (.inl (true, N, f))) (hj : vp_in j N) (hk : am_T S r ab' (pc + 1) L (.int (f j.toNatClampNeg) :: rest) ab k n) : am_T S r ab' pc L (.int j :: .ref i :: rest) ab k n := by
  intro l D cI cZ b p e s m args below meth c H locs ls hC hH hS hL hlen
  exact va_zald hC.1 hC.2.1 hC.2.2.2.2.2.2.2.2.1.1 (am_P hH) i 1 (am_ws_at (by rw [← am_ls_eq]; exact hc)) rfl hj hd (hk l D cI cZ b p e s m args below meth c H locs ls hC hH hS hL hlen)
theorem am_t_iastore {j x : Int32} {i N : Nat} {f : Nat → Int32} (hd : decode (am_c S) pc = .ok (.iastore, 1)) (hc : am_ls ab i = some (.inl (false, N, f))) (hj : vp_in j N) (hk : am_T S r ab' (pc + 1) L rest (am_up ab i (.inl (false, N, upd f j.toNatClampNeg x))) k n) : am_T S r ab' pc L (.int x :: .int j :: .ref i :: rest) ab k n := by
  intro l D cI cZ b p e s m args below meth c H locs ls hC hH hS hL hlen
  have ha := am_P hH i _ (am_ws_at (by rw [← am_ls_eq]; exact hc))
  refine W.iast hC.1 hC.2.1 ha ((hC.2.2.2.2.2.2.2.2.1.1.2 0 _ rfl).1 N (fun q => .int (f q))) (fun q => by cases q) (by show ¬ (j < 0 ∨ (arrV _ _ _).slots.size ≤ _); rw [arrV_size]; exact hj) rfl rfl hd fun H1 e1 z1 oq => ?_
  refine hk l D cI cZ b p e s m args below meth c H1 _ ls hC (am_H_set hH hc z1 ?_ oq) (am_S_put hS z1 oq) hL hlen
  show H1[b + i]? = some (vp_cell _ _)
  rw [e1]
  show some ((vp_cell _ _).setSlot _ _) = _
  rw [vp_cell_i, vp_cell_i, arrV_store]
  congr 2
  funext q
  by_cases hq : q = j.toNatClampNeg
  · subst hq
    simp [updV, upd]
    try rfl
  · simp [updV, upd, hq]
theorem am_t_bastore {j x : Int32} {i N : Nat} {f : Nat → Int32} (hd : decode (am_c S) pc = .ok (.bastore, 1)) (hc : am_ls ab i = some (.inl (true, N, f))) (hj : vp_in j N) (hk : am_T S r ab' (pc + 1) L rest (am_up ab i (.inl (true, N, upd f j.toNatClampNeg (vp_nar .boolean x)))) k n) : am_T S r ab' pc L (.int x :: .int j :: .ref i :: rest) ab k n := by
  intro l D cI cZ b p e s m args below meth c H locs ls hC hH hS hL hlen
  have ha := am_P hH i _ (am_ws_at (by rw [← am_ls_eq]; exact hc))
  refine W.zast hC.1 hC.2.1 ha ((hC.2.2.2.2.2.2.2.2.1.1.2 1 _ rfl).1 N (fun q => .int (f q))) (fun q => by cases q) (by show ¬ (j < 0 ∨ (arrV _ _ _).slots.size ≤ _); rw [arrV_size]; exact hj) rfl rfl hd fun H1 e1 z1 oq => ?_
  refine hk l D cI cZ b p e s m args below meth c H1 _ ls hC (am_H_set hH hc z1 ?_ oq) (am_S_put hS z1 oq) hL hlen
  show H1[b + i]? = some (vp_cell _ _)
  rw [e1]
  show some ((vp_cell _ _).setSlot _ _) = _
  rw [vp_cell_i, vp_cell_i, arrV_store]
  congr 2
  funext q
  by_cases hq : q = j.toNatClampNeg
  · subst hq
    simp [updV, upd, vp_nar]
    try rfl
  · simp [updV, upd, hq]
end AMI
end
section
/-! soundness of the small machine: fields, new cells, calls, returns, switches -/
theorem am_in0 : ∀ w ∈ u_ws RX0 TX0 4, w ∈ lw_tbl ∧ goodWord w = true := by decide +kernel
theorem am_in1 : ∀ w ∈ u_ws RX1 TX1 2, w ∈ lw_tbl ∧ goodWord w = true := by decide +kernel
theorem am_in3 : ∀ w ∈ u_ws RX3 TX3 2, w ∈ lw_tbl ∧ goodWord w = true := by decide +kernel
theorem am_in5 : ∀ w ∈ u_ws RX5 TX5 9, w ∈ lw_tbl ∧ goodWord w = true := by decide +kernel
theorem am_in6 : ∀ w ∈ u_ws RX6 TX6 8, w ∈ lw_tbl ∧ goodWord w = true := by decide +kernel
theorem am_in7 : ∀ w ∈ u_ws RX7 TX7 3, w ∈ lw_tbl ∧ goodWord w = true := by decide +kernel
theorem am_in9 : ∀ w ∈ u_ws RX9 TX9 9, w ∈ lw_tbl ∧ goodWord w = true := by decide +kernel
theorem am_in10 : ∀ w ∈ u_ws RX10 TX10 9, w ∈ lw_tbl ∧ goodWord w = true := by decide +kernel
theorem am_in11 : ∀ w ∈ u_ws RX11 TX11 28, w ∈ lw_tbl ∧ goodWord w = true := by decide +kernel
theorem am_inOf {l : List Cond} (h : ∀ w ∈ l, w ∈ lw_tbl ∧ goodWord w = true) : ∀ w ∈ l, w ∈ am_gw := fun w hw => List.mem_filter.mpr (h w hw)
def am_Cls (ci : Nat) (C : String) (T : u_T) (N : Nat) (ty : Nat → FieldType) : Prop := (∀ w ∈ u_ws C T N, w ∈ am_gw) ∧ (∀ k, k < N → parseFieldDescriptor (T k).2.2.1 = some (ty k)) ∧ (∀ a, a < N → ∀ b, b < N → a ≠ b → (T a).2.1 ≠ (T b).2.1) ∧ (∀ j, j < N → defaultValue (ty j) = vp_V (am_df ci) j) ∧ (∀ b, (am_df ci).map (am_v b) = am_df ci)
theorem am_cls {ci : Nat} {C : String} {T : u_T} {N : Nat} (h : vwCl[ci]? = some (C, T, N)) : ∃ ty, am_Cls ci C T N ty := by
  match ci, h with
  | 0, h => cases h; exact ⟨tyX0, am_inOf am_in0, tyX0_ok, nmX0, by decide +kernel, fun _ => rfl⟩
  | 1, h => cases h; exact ⟨tyX1, am_inOf am_in1, tyX1_ok, nmX1, by decide +kernel, fun _ => rfl⟩
  | 2, h => cases h; exact ⟨tyX3, am_inOf am_in3, tyX3_ok, nmX3, by decide +kernel, fun _ => rfl⟩
  | 3, h => cases h; exact ⟨tyX5, am_inOf am_in5, tyX5_ok, nmX5, by decide +kernel, fun _ => rfl⟩
  | 4, h => cases h; exact ⟨tyX6, am_inOf am_in6, tyX6_ok, nmX6, by decide +kernel, fun _ => rfl⟩
  | 5, h => cases h; exact ⟨tyX7, am_inOf am_in7, tyX7_ok, nmX7, by decide +kernel, fun _ => rfl⟩
  | 6, h => cases h; exact ⟨tyX9, am_inOf am_in9, tyX9_ok, nmX9, by decide +kernel, fun _ => rfl⟩
  | 7, h => cases h; exact ⟨tyX10, am_inOf am_in10, tyX10_ok, nmX10, by decide +kernel, fun _ => rfl⟩
  | 8, h => cases h; exact ⟨tyX11, am_inOf am_in11, tyX11_ok, nmX11, by decide +kernel, fun _ => rfl⟩
  | k + 9, h => simp [vwCl] at h
/-- a field, as an instruction names it -/
def am_fk (own : String) (idx k : Nat) (ref : String) (ci : Nat) : Prop := ∃ (C : String) (T : u_T) (N : Nat), vwCl[ci]? = some (C, T, N) ∧ k < N ∧ Cond.fieldLink own idx ref (T k).2.1 (T k).2.2.1 ∈ am_gw ∧ ((T k).1 = ref ∨ Cond.sameField ref (T k).1 (T k).2.1 (T k).2.2.1 ∈ am_gw)
def am_pk (own nm : String) (idx k : Nat) (ref : String) (ci : Nat) (sort : Int32) : Prop := ∃ (C : String) (T : u_T) (N : Nat) (ty : FieldType), vwCl[ci]? = some (C, T, N) ∧ k < N ∧ Cond.fieldLink own idx ref (T k).2.1 (T k).2.2.1 ∈ am_gw ∧ ((T k).1 = ref ∨ Cond.sameField ref (T k).1 (T k).2.1 (T k).2.2.1 ∈ am_gw) ∧
  ((T k).2.2.2 = false ∨ ((T k).2.2.2 = true ∧ nm = "<init>" ∧ (T k).1 = own)) ∧ parseFieldDescriptor (T k).2.2.1 = some ty ∧ ((sort = 0 ∧ ty = .int) ∨ (sort = 1 ∧ ty = .boolean) ∨ (sort = 2 ∧ ((∃ c, ty = .object c) ∨ ∃ t, ty = .array t)))
theorem am_fv_ok {sort : Int32} {v : Value} {ty : FieldType} (b : Nat) (h : am_fv sort v = true) (ht : (sort = 0 ∧ ty = .int) ∨ (sort = 1 ∧ ty = .boolean) ∨ (sort = 2 ∧ ((∃ c, ty = .object c) ∨ ∃ t, ty = .array t))) : narrow ty (am_v b v) = am_v b v ∧ fits ty (am_v b v) = true := by
  rcases ht with ⟨rfl, rfl⟩ | ⟨rfl, rfl⟩ | ⟨rfl, ⟨c, rfl⟩ | ⟨t, rfl⟩⟩
  · cases v with
    | int x => exact ⟨rfl, rfl⟩
    | _ => simp [am_fv] at h
  · cases v with
    | int x =>
      simp [am_fv] at h
      rcases h with rfl | rfl <;> exact ⟨rfl, rfl⟩
    | _ => simp [am_fv] at h
  · cases v with
    | ref x => exact ⟨rfl, rfl⟩
    | null => exact ⟨rfl, rfl⟩
    | _ => simp [am_fv] at h
  · cases v with
    | ref x => exact ⟨rfl, rfl⟩
    | null => exact ⟨rfl, rfl⟩
    | _ => simp [am_fv] at h
section AMO
variable {S : am_Sg} {r : Option Value} {ab' : List am_Cl} {pc : Nat} {L rest : List Value} {ab : List am_Cl} {k n : Nat}
theorem am_t_getfield {idx j i ci : Nat} {ref : String} {fs : List Value} {v : Value} (hd : decode (am_c S) pc = .ok (.getfield idx, 3)) (hF : am_fk (am_y S).cls idx j ref ci) (hc : am_ls ab i = some (.inr (ci, fs))) (hv : am_vs fs j = some v) (hk : am_T S r ab' (pc + 3) L (v :: rest) ab k n) : am_T S r ab' pc L (.ref i :: rest) ab k n := by
  intro l D cI cZ b p e s m args below meth c H locs ls hC hH hS hL hlen
  obtain ⟨C, T, N, hc0, hjN, hlink, hsm⟩ := hF
  obtain ⟨ty, hin, -⟩ := am_cls hc0
  have hts := hC.2.2.2.2.2.2.2.1
  refine va_get (v := am_v b v) (ref := ref) hC.1 hC.2.1 hts hin hC.2.2.2.2.2.1 hC.2.2.2.2.2.2.2.2.1.1 (am_P hH) i (am_ws_at (by rw [← am_ls_eq]; exact hc)) hc0 j hjN (hts _ hlink) ?_ ?_ hd (hk l D cI cZ b p e s m args below meth c H locs ls hC hH hS hL hlen)
  · rcases hsm with h | h
    · intro x hx; rw [← h]; exact hx
    · intro x hx; exact u_same (hts _ h) x hx
  · rw [List.getElem?_map, ← am_vs_eq, hv]; rfl
theorem am_t_putfield {idx j i ci : Nat} {ref : String} {sort : Int32} {fs : List Value} {v u : Value} (hd : decode (am_c S) pc = .ok (.putfield idx, 3)) (hF : am_pk (am_y S).cls (am_y S).name idx j ref ci sort) (hc : am_ls ab i = some (.inr (ci, fs))) (hu : am_vs fs j = some u) (hv : am_fv sort v = true) (hk : am_T S r ab' (pc + 3) L rest (am_up ab i (.inr (ci, am_vu fs j v))) k n) : am_T S r ab' pc L (v :: .ref i :: rest) ab k n := by
  intro l D cI cZ b p e s m args below meth c H locs ls hC hH hS hL hlen
  obtain ⟨C, T, N, ty, hc0, hjN, hlink, hsm, hfin, hdesc, hsort⟩ := hF
  obtain ⟨ty0, hin, hty0, hnm0, -⟩ := am_cls hc0
  obtain ⟨hn, hfit⟩ := am_fv_ok b hv hsort
  have hts := hC.2.2.2.2.2.2.2.1
  have hKv := hC.2.2.2.2.2.2.2.2.1.1
  have hown := hC.2.2.2.2.2.1
  have hap := va_apart (own := (am_y S).cls) hts hin ty0 hty0 hnm0 hKv hc0
  obtain ⟨r0, h1, cell, q1, q2, q3, q4⟩ := am_P hH i _ (am_ws_at (by rw [← am_ls_eq]; exact hc))
  have hr0 : r0 = (C, T, N) := Option.some.inj (h1.symm.trans hc0)
  subst hr0
  obtain ⟨hSl, hfc, kC, hkC, hkind⟩ := hKv.1 ci _ hc0
  obtain ⟨cf, kf, fi, f, hi, hsl⟩ := hSl j hjN
  have hst := (u_facts hfc hkC (u_lays hts hin hjN) hi).1
  have hsame : s.fieldFound? ref (T j).2.1 (T j).2.2.1 = some (cf, kf, fi, f) := by
    rcases hsm with h | h
    · rw [← h]; exact hi
    · exact u_same (hts _ h) _ hi
  have hlen2 : j < (fs.map (am_v b)).length := by
    rw [am_vs_eq] at hu
    simpa using (List.getElem?_eq_some_iff.mp hu).1
  have fin : ∀ H' : Heap, H'[b + i]? = some (cell.setSlot f.slot (am_v b v)) → H'.size = H.size → (∀ q, q ≠ b + i → H'[q]? = H[q]?) → W p l e (am_rm S) s m args below meth c H' (locs ++ [⟨b + i, f.slot⟩]) k n (MQ below (am_Q D cI cZ b r ab') args s (am_rm S).cells (am_rm S).slots (fun q => b ≤ q)) (F0 m (pc + 3) ls (rest.map (am_v b))) := by
    intro H' e1 e2 e3
    refine hk l D cI cZ b p e s m args below meth c H' _ ls hC (am_H_set hH hc e2 ?_ e3) (am_S_put hS e2 e3) hL hlen
    rw [hsl] at e1
    refine ⟨_, hc0, ?_⟩
    have e4 : (am_vu fs j v).map (am_v b) = (fs.map (am_v b)).set j (am_v b v) := by rw [am_vu_eq, List.map_set]
    show t_OB (b + i) _ _ _ H' (vp_V ((am_vu fs j v).map (am_v b)))
    rw [e4]
    exact t_OB.to (V := updV (vp_V (fs.map (am_v b))) j (am_v b v)) ⟨_, e1, q2, q3, t_set q4 hap hjN (am_v b v)⟩ (fun x _ => vp_updV_set hlen2 (am_v b v) x)
  have hlay := hts _ (hin _ (u_in_lay hjN))
  unfold u_lay at hlay
  rcases hfin with hf | ⟨hf, hini, hdecl⟩
  · rw [if_neg (by rw [hf]; decide)] at hlay
    have h6 := u_store hfc hkC hkind hlay hi hdesc hn hfit
    exact W.putK hC.1 hC.2.1 (f := f) ⟨hown, hts _ hlink, ⟨_, _, _, hsame⟩, hst⟩ (by rw [q2]; exact h6) q1 q3 (by rw [hsl]; exact k2_hasslot (q4 j hjN)) rfl rfl hd fin
  · rw [if_pos hf] at hlay
    have hcf : m.cls = cf := by
      obtain ⟨_, _, c', _, _, _, -, -, hf', -, -, -, hown2, -⟩ := Cond.laysFinal_spec hlay
      have e1 : c' = cf := by have := hi.symm.trans hf'; simp at this; exact this.1.symm
      rw [hdecl] at hown2
      rw [← e1]; exact Option.some.inj (hown.symm.trans hown2)
    have h6 := u_fits hfc hkC hkind (Or.inr hlay) hi hdesc hn hfit
    exact W.putFinK hC.1 hC.2.1 hown (hts _ hlink) hsame hst hcf (by rw [hC.2.2.2.2.2.2.1]; exact hini) (by rw [q2]; exact h6) q1 q3 (by rw [hsl]; exact k2_hasslot (q4 j hjN)) rfl rfl hd fin
theorem am_t_new {idx ci : Nat} {C : String} {T : u_T} (hd : decode (am_c S) pc = .ok (.new idx, 3)) (hc0 : vwCl[ci]? = some (C, T, (am_df ci).length)) (hcl : Cond.classLink (am_y S).cls idx C ∈ am_gw) (hins : Cond.instantiable C (am_df ci).length ∈ am_gw) (hini : Cond.initialized C ∈ am_gw) (h1 : k + 1 ≤ (am_rm S).cells) (h2 : n + (am_df ci).length ≤ (am_rm S).slots) (hk : am_T S r ab' (pc + 3) L (.ref ab.length :: rest) (ab ++ [.inr (ci, am_df ci)]) (k + 1) (n + (am_df ci).length)) : am_T S r ab' pc L rest ab k n := by
  intro l D cI cZ b p e s m args below meth c H locs ls hC hH hS hL hlen
  obtain ⟨ty0, hin, hty0, hnm0, hdf, hmap⟩ := am_cls hc0
  have hts := hC.2.2.2.2.2.2.2.1
  have hKn := hC.2.2.2.2.2.2.2.2.1.1.1 ci _ hc0
  refine W.newcK hC.1 hC.2.1 hC.2.2.2.2.2.1 (hts _ hcl) (hts _ hins) (hts _ hini) rfl hd h1 h2 hKn.2.1 hH.1 fun H1 kC hkC e1 z1 o1 => ?_
  refine hk l D cI cZ b p e s m args below meth c H1 locs ls hC (am_H_new hH (by rw [z1, hH.1]) ?_ (by rw [hH.1]; exact o1)) (am_S_new hS (by rw [z1, hH.1]) (by rw [hH.1]; exact o1)) hL hlen
  refine ⟨_, hc0, ?_⟩
  show t_OB _ _ _ _ _ (vp_V ((am_df ci).map (am_v b)))
  rw [hmap]
  exact (u_born ty0 hts hin hKn hkC e1 hty0).to hdf
theorem am_t_newarray {t : ArrayType} {cn : Int32} {N : Nat} (hd : decode (am_c S) pc = .ok (.newarray t, 2)) (hw : Cond.arrayClass (newarray.typeOf t) ∈ am_gw) (ht : t = .int ∨ t = .boolean) (hn : ¬ cn < 0) (hN : cn.toNatClampNeg = N) (hb8 : N * 8 ≤ 536870912) (h1 : k + 1 ≤ (am_rm S).cells) (h2 : n + N ≤ (am_rm S).slots) (hk : am_T S r ab' (pc + 2) L (.ref ab.length :: rest) (ab ++ [.inl (decide (t = .boolean), N, fun _ => 0)]) (k + 1) (n + N)) : am_T S r ab' pc L (.int cn :: rest) ab k n := by
  intro l D cI cZ b p e s m args below meth c H locs ls hC hH hS hL hlen
  have hts := hC.2.2.2.2.2.2.2.1
  have hKv := hC.2.2.2.2.2.2.2.2.1.1
  refine va_newaK hC.1 hC.2.1 (hts _ hw) rfl hd rfl hn hN ?_ h1 h2 hH.1 fun H1 cA e1 z1 o1 hAr hNm => ?_
  · rcases ht with rfl | rfl <;> (simp [newarray.typeOf, componentBytes]; omega)
  · refine hk l D cI cZ b p e s m args below meth c H1 locs ls hC (am_H_new hH (by rw [z1, hH.1]) ?_ (by rw [hH.1]; exact o1)) (am_S_new hS (by rw [z1, hH.1]) (by rw [hH.1]; exact o1)) hL hlen
    rcases ht with rfl | rfl
    · have e2 : s.vm.findClass ("[" ++ (FieldType.int).toString) = some cI := (hKv.2 0 _ rfl).2
      have e3 : cA = cI := Option.some.inj (hNm.symm.trans e2)
      subst e3
      exact e1
    · have e2 : s.vm.findClass ("[" ++ (FieldType.boolean).toString) = some cZ := (hKv.2 1 _ rfl).2
      have e3 : cA = cZ := Option.some.inj (hNm.symm.trans e2)
      subst e3
      exact e1
theorem am_t_objInit {idx i : Nat} (hd : decode (am_c S) pc = .ok (.invokespecial idx, 3)) (hl : Cond.methodLink (am_y S).cls idx Lib.objectInit ∈ am_gw) (hi : Cond.instanceMethod Lib.objectInit ∈ am_gw) (hc : Cond.code Lib.objectInit ⟨#[0xb1]⟩ 1 none ∈ am_gw) (hf : 1 ≤ (am_rm S).frames) (ho : 20 ≤ (am_rm S).locals) (h8 : am_ct rest ≤ 8) (hk : am_T S r ab' (pc + 3) L rest ab k n) : am_T S r ab' pc L (.ref i :: rest) ab k n := by
  intro l D cI cZ b p e s m args below meth c H locs ls hC hH hS hL hlen
  have hts := hC.2.2.2.2.2.2.2.1
  refine W.objInit hC.1 hC.2.1 hC.2.2.2.2.2.1 (hts _ hl) (hts _ hi) (hts _ hc) rfl (by rw [hC.2.2.2.2.1]; exact hL.1) rfl hd hf ?_ (hk l D cI cZ b p e s m args below meth c H locs ls hC hH hS hL hlen)
  have := am_ct_eq b rest
  show 2 * 0 + _ + 12 ≤ _
  rw [this]
  omega
theorem am_t_min {idx : Nat} {x y : Int32} (hd : decode (am_c S) pc = .ok (.invokestatic idx, 3)) (hl : Cond.methodLink (am_y S).cls idx Lib.Math.min.name ∈ am_gw) (hst : Cond.static Lib.Math.min.name ∈ am_gw) (hin : Cond.initialized "java/lang/Math" ∈ am_gw) (hc : Cond.code Lib.Math.min.name Lib.Math.min.code 2 (some .int) ∈ am_gw) (hf : 1 ≤ (am_rm S).frames) (ho : 21 ≤ (am_rm S).locals) (h8 : am_ct rest ≤ 8) (h1 : k ≤ (am_rm S).cells) (h2 : n ≤ (am_rm S).slots) (hk : am_T S r ab' (pc + 3) L (.int (if y < x then y else x) :: rest) ab k n) : am_T S r ab' pc L (.int y :: .int x :: rest) ab k n := by
  intro l D cI cZ b p e s m args below meth c H locs ls hC hH hS hL hlen
  have hts := hC.2.2.2.2.2.2.2.1
  refine va_mmin hC.1 hC.2.1 (by rw [hC.2.2.2.2.1]; exact hL.1.symm) hC.2.2.2.2.2.1 (hts _ hl) (hts _ hst) (hts _ hin) (hts _ hc) hf ?_ h1 h2 hd (hk l D cI cZ b p e s m args below meth c H locs ls hC hH hS hL hlen)
  have := am_ct_eq b rest
  rw [this]
  omega
theorem am_t_ireturn {x : Int32} {ty : FieldType} (hd : decode (am_c S) pc = .ok (.ireturn, 1)) (hr : am_r S = some ty) (hn : narrow ty (.int x) = .int x) (h1 : k ≤ (am_rm S).cells) (h2 : n ≤ (am_rm S).slots) : am_T S (some (.int x)) ab pc L [.int x] ab k n := by
  intro l D cI cZ b p e s m args below meth c H locs ls hC hH hS hL hlen
  refine W.widen h1 h2 ?_
  exact W.zret hC.1 hC.2.1 (by rw [hC.2.2.1, hr]) hn (fun t ht hW => ⟨rfl, by rw [ht]; exact hH, hS.F ht⟩) hS.2.2 hd hC.2.2.2.1
theorem am_t_return (hd : decode (am_c S) pc = .ok (.return_, 1)) (hr : am_r S = none) (h1 : k ≤ (am_rm S).cells) (h2 : n ≤ (am_rm S).slots) : am_T S none ab pc L [] ab k n := by
  intro l D cI cZ b p e s m args below meth c H locs ls hC hH hS hL hlen
  refine W.widen h1 h2 ?_
  exact W.vret hC.1 hC.2.1 (by rw [hC.2.2.1, hr]) (fun t ht hW => ⟨rfl, by rw [ht]; exact hH, hS.F ht⟩) hS.2.2 hd hC.2.2.2.1
theorem am_t_areturn {v : Value} {nm : String} (hd : decode (am_c S) pc = .ok (.areturn, 1)) (hr : am_r S = some (.object nm)) (hv : am_fv 2 v = true) (h1 : k ≤ (am_rm S).cells) (h2 : n ≤ (am_rm S).slots) : am_T S (some v) ab pc L [v] ab k n := by
  intro l D cI cZ b p e s m args below meth c H locs ls hC hH hS hL hlen
  refine W.widen h1 h2 ?_
  refine W.aret (v := am_v b v) hC.1 hC.2.1 (by rw [hC.2.2.1, hr]) (Or.inl ⟨nm, rfl⟩) ?_ (fun t ht hW => ⟨rfl, by rw [ht]; exact hH, hS.F ht⟩) hS.2.2 hd hC.2.2.2.1
  cases v with
  | ref i => exact Or.inr ⟨_, rfl⟩
  | null => exact Or.inl rfl
  | _ => simp [am_fv] at hv
end AMO
end
section
/-! soundness of the small machine: calls -/
theorem am_after {p : Program} {l : Launch} {e : Env} {R : Room} {s : State} {m : MethodId} {args : Array Value} {below : List Frame} {meth : Method} {c : Code} {H : Heap} {locs : List Loc} {k n : Nat} {Q : State → Prop} {pc : Nat} {ls : Array Slot} {st0 rest : List Value} {mc ms : Nat} {D : va_G} {cI cZ : ClassId} {b : Nat} {v : Option Value} {ab1 : List am_Cl} {a : Array Value}
    (hr : va_Run p l e R s m args below meth c H locs k n mc ms (F0 m pc ls st0) rest (am_Q D cI cZ b v ab1 a) (fun q => b ≤ q)) (hS : va_S (fun q => b ≤ q) s.heap H locs)
    (kk : ∀ (H1 : Heap) (locs1 : List Loc), am_H D cI cZ b ab1 H1 → va_S (fun q => b ≤ q) s.heap H1 locs1 → W p l e R s m args below meth c H1 locs1 (k + mc) (n + ms) Q (F0 m (pc + 3) ls ((v.map (am_v b)).toList ++ rest))) : W p l e R s m args below meth c H locs k n Q (F0 m pc ls st0) := by
  intro T hT X
  obtain ⟨v0, st₀, t, T', L, h0, X', hL, e1, e2, ⟨hv, hH1, hz, hk⟩, st⟩ := hr T hT X
  have hv0 : v0 = v.map (am_v b) := Outcome.returned.inj hv
  subst hv0
  rw [h0] at hz hk
  obtain ⟨t2, a1, b1⟩ := kk T'.heap (locs ++ L) (by rw [e1]; exact hH1)
    ⟨Nat.le_trans hS.1 (by rw [e1]; exact hz), fun q h1 h2 => by rw [e1, hk q (Nat.lt_of_lt_of_le h1 hS.1) h2]; exact hS.2.1 q h1 h2, fun q hq => by
      rcases List.mem_append.mp hq with h | h
      · exact hS.2.2 q h
      · exact hL q h⟩ T' rfl X'
  exact ⟨t2, st t2 a1, b1⟩
theorem am_blind (D : va_G) (cI cZ : ClassId) (b : Nat) (as : List Value) (ab : List am_Cl) : FrameBlind (fun a U => a = (as.map (am_v b)).toArray ∧ am_H D cI cZ b ab U.heap ∧ am_K D cI cZ U) := fun a U g mk h => ⟨h.1, h.2.1, am_K_call (U := U) (V := U.calling g mk a) rfl h.2.2⟩
/-- what is asked of a callee, apart from how it is named -/
def am_qk (S q : am_Sg) (n : Nat) : Prop := ((am_y q).cls ≠ "java/lang/invoke/MethodHandle" ∧ (am_y q).cls ≠ "java/lang/invoke/VarHandle" ∧ (parseMethodDescriptor (am_y q).desc).map (fun d => d.parameters.length) = some n) ∧ ((am_rm q).frames + 1 ≤ (am_rm S).frames ∧ 8 + (am_l q + 11) + (am_rm q).locals ≤ (am_rm S).locals) ∧ Cond.initialized (am_y q).cls ∈ am_gw
section AMC
variable {S q : am_Sg} {r : Option Value} {ab' : List am_Cl} {pc : Nat} {L rest as : List Value} {ab ab1 : List am_Cl} {k n idx : Nat} {v : Option Value}
theorem am_stk (b : Nat) (v : Option Value) (rest : List Value) : (v.map (am_v b)).toList ++ rest.map (am_v b) = (v.toList ++ rest).map (am_v b) := by cases v <;> rfl
theorem am_room8 {m : MethodId} {ls : Array Slot} {st : List Value} (b : Nat) (h : am_ct rest ≤ 8) : 2 * (F0 m pc ls st).monitorRoom + ((rest.map (am_v b)).map fun v => v.category).sum ≤ 8 := by
  rw [am_ct_eq]
  show 2 * 0 + _ ≤ 8
  omega
theorem am_t_static (hd : decode (am_c S) pc = .ok (.invokestatic idx, 3)) (hE : am_Ev q as ab v ab1) (hq : am_qk S q as.length) (hst : Cond.static (am_y q) ∈ am_gw) (hl : Cond.methodLink (am_y S).cls idx (am_y q) ∈ am_gw ∨ ∃ host, Cond.methodLinkNest (am_y S).cls idx (am_y q) host ∈ am_bw) (h8 : am_ct rest ≤ 8) (h1 : k + (am_rm q).cells ≤ (am_rm S).cells) (h2 : n + (am_rm q).slots ≤ (am_rm S).slots)
    (hk : am_T S r ab' (pc + 3) L (v.toList ++ rest) ab1 (k + (am_rm q).cells) (n + (am_rm q).slots)) : am_T S r ab' pc L (as.reverse ++ rest) ab k n := by
  intro l D cI cZ b p e s m args below meth c H locs ls hC hH hS hL hlen
  have hts := hC.2.2.2.2.2.2.2.1
  have hKs := hC.2.2.2.2.2.2.2.2.1
  have hp : PreS s H (fun a U => a = (as.map (am_v b)).toArray ∧ am_H D cI cZ b ab U.heap ∧ am_K D cI cZ U) (as.map (am_v b)) := ⟨am_blind D cI cZ b as ab, fun U hU hW => ⟨rfl, by rw [hU]; exact hH, am_K_warm hW hKs⟩⟩
  have fin : ∀ (H1 : Heap) (locs1 : List Loc), am_H D cI cZ b ab1 H1 → va_S (fun q => b ≤ q) s.heap H1 locs1 → W p l e (am_rm S) s m args below meth c H1 locs1 (k + (am_rm q).cells) (n + (am_rm q).slots) (MQ below (am_Q D cI cZ b r ab') args s (am_rm S).cells (am_rm S).slots (fun q => b ≤ q)) (F0 m (pc + 3) ls ((v.map (am_v b)).toList ++ rest.map (am_v b))) := by
    intro H1 locs1 g1 g2
    rw [am_stk]
    exact hk l D cI cZ b p e s m args below meth c H1 locs1 ls hC g1 g2 hL hlen
  rcases hl with hl | ⟨host, hl⟩
  · exact am_after (va_runS (As := as.map (am_v b)) (rest := rest.map (am_v b)) (nL := am_l S) (Ts := am_gw) ⟨hC.1, hC.2.1, hC.2.2.2.2.1, hC.2.2.2.2.2.1, hts⟩ (hE.2 l D cI cZ b) ⟨callB_of as.length hts (am_good hE.1) rfl rfl rfl (hts _ hq.2.2) (hts _ hl) hq.1 hq.2.1, hts _ hst⟩ hp rfl (by simp) hL.1 (by simp [List.map_reverse]) (am_room8 b h8) hd ⟨h1, h2⟩) hS fin
  · exact am_after (va_runSN (host := host) (As := as.map (am_v b)) (rest := rest.map (am_v b)) (nL := am_l S) (Ts := am_gw) ⟨hC.1, hC.2.1, hC.2.2.2.2.1, hC.2.2.2.2.2.1, hts⟩ (hE.2 l D cI cZ b) ⟨va_cnB as.length hts (am_good hE.1) rfl rfl rfl (hKs.2 _ hl) (hts _ hq.2.2) hq.1 hq.2.1, hts _ hst, trivial⟩ hp rfl (by simp) hL.1 (by simp [List.map_reverse]) (am_room8 b h8) hd ⟨h1, h2⟩) hS fin
theorem am_t_special {i : Nat} (hd : decode (am_c S) pc = .ok (.invokespecial idx, 3)) (hE : am_Ev q (.ref i :: as) ab v ab1) (hq : am_qk S q as.length) (hin : Cond.instanceMethod (am_y q) ∈ am_gw) (hnm : (am_y q).name = "<init>") (hrt : am_r q = none) (hl : Cond.methodLink (am_y S).cls idx (am_y q) ∈ am_gw ∨ ∃ host, Cond.methodLinkNest (am_y S).cls idx (am_y q) host ∈ am_bw) (h8 : am_ct rest ≤ 8) (h1 : k + (am_rm q).cells ≤ (am_rm S).cells) (h2 : n + (am_rm q).slots ≤ (am_rm S).slots)
    (hk : am_T S r ab' (pc + 3) L (v.toList ++ rest) ab1 (k + (am_rm q).cells) (n + (am_rm q).slots)) : am_T S r ab' pc L (as.reverse ++ .ref i :: rest) ab k n := by
  intro l D cI cZ b p e s m args below meth c H locs ls hC hH hS hL hlen
  obtain ⟨y, cc, ml, rt, rm⟩ := q
  have hrt : rt = none := hrt
  subst hrt
  have hts := hC.2.2.2.2.2.2.2.1
  have hKs := hC.2.2.2.2.2.2.2.2.1
  have hp : PreS s H (fun a U => a = ((Value.ref i :: as).map (am_v b)).toArray ∧ am_H D cI cZ b ab U.heap ∧ am_K D cI cZ U) (.ref (b + i) :: as.map (am_v b)) := ⟨am_blind D cI cZ b (.ref i :: as) ab, fun U hU hW => ⟨rfl, by rw [hU]; exact hH, am_K_warm hW hKs⟩⟩
  have fin : ∀ (H1 : Heap) (locs1 : List Loc), am_H D cI cZ b ab1 H1 → va_S (fun q => b ≤ q) s.heap H1 locs1 → W p l e (am_rm S) s m args below meth c H1 locs1 (k + rm.cells) (n + rm.slots) (MQ below (am_Q D cI cZ b r ab') args s (am_rm S).cells (am_rm S).slots (fun q => b ≤ q)) (F0 m (pc + 3) ls ((v.map (am_v b)).toList ++ rest.map (am_v b))) := by
    intro H1 locs1 g1 g2
    rw [am_stk]
    exact hk l D cI cZ b p e s m args below meth c H1 locs1 ls hC g1 g2 hL hlen
  rcases hl with hl | ⟨host, hl⟩
  · exact am_after (va_runI (As := as.map (am_v b)) (b := b + i) (rest := rest.map (am_v b)) (nL := am_l S) (Ts := am_gw) ⟨hC.1, hC.2.1, hC.2.2.2.2.1, hC.2.2.2.2.2.1, hts⟩ (hE.2 l D cI cZ b) ⟨callB_of as.length hts (am_good hE.1) rfl rfl rfl (hts _ hq.2.2) (hts _ hl) hq.1 hq.2.1, hnm, hts _ hin⟩ hp rfl (by simp) hL.1 (by simp [List.map_reverse, am_v]) (am_room8 b h8) hd ⟨h1, h2⟩) hS fin
  · exact am_after (va_runIN (host := host) (As := as.map (am_v b)) (b := b + i) (rest := rest.map (am_v b)) (nL := am_l S) (Ts := am_gw) ⟨hC.1, hC.2.1, hC.2.2.2.2.1, hC.2.2.2.2.2.1, hts⟩ (hE.2 l D cI cZ b) ⟨va_cnB as.length hts (am_good hE.1) rfl rfl rfl (hKs.2 _ hl) (hts _ hq.2.2) hq.1 hq.2.1, hnm, hts _ hin⟩ hp rfl (by simp) hL.1 (by simp [List.map_reverse, am_v]) (am_room8 b h8) hd ⟨h1, h2⟩) hS fin
/-- how a virtual call names its callee, for a receiver of class ci: itself, or by an inherited name -/
def am_vk (own : String) (idx : Nat) (ref : String) (ci : Nat) (y : MethodName) : Prop := ∃ (C : String) (T : u_T) (N : Nat), vwCl[ci]? = some (C, T, N) ∧ Cond.instanceMethod y ∈ am_gw ∧
  ((Cond.methodLink own idx y ∈ am_gw ∧ Cond.selects C y y ∈ am_gw) ∨ ∃ owner : String, Cond.methodLink own idx ⟨ref, y.name, y.desc⟩ ∈ am_gw ∧ Cond.sameMethod ref owner y.name y.desc ∈ am_gw ∧ Cond.selects C ⟨ref, y.name, y.desc⟩ y ∈ am_gw ∧ (owner ≠ "java/lang/invoke/MethodHandle" ∧ owner ≠ "java/lang/invoke/VarHandle") ∧ (y = ⟨owner, y.name, y.desc⟩ ∨ Cond.declares ⟨owner, y.name, y.desc⟩ ∈ am_bw))
theorem am_t_virtual {i ci : Nat} {ref : String} {fs : List Value} (hd : decode (am_c S) pc = .ok (.invokevirtual idx, 3)) (hE : am_Ev q (.ref i :: as) ab v ab1) (hq : am_qk S q as.length) (hV : am_vk (am_y S).cls idx ref ci (am_y q)) (hc : am_ls ab i = some (.inr (ci, fs))) (h8 : am_ct rest ≤ 8) (h1 : k + (am_rm q).cells ≤ (am_rm S).cells) (h2 : n + (am_rm q).slots ≤ (am_rm S).slots)
    (hk : am_T S r ab' (pc + 3) L (v.toList ++ rest) ab1 (k + (am_rm q).cells) (n + (am_rm q).slots)) : am_T S r ab' pc L (as.reverse ++ .ref i :: rest) ab k n := by
  intro l D cI cZ b p e s m args below meth c H locs ls hC hH hS hL hlen
  obtain ⟨C, T, N, hc0, hin, hV⟩ := hV
  have hts := hC.2.2.2.2.2.2.2.1
  have hKs := hC.2.2.2.2.2.2.2.2.1
  have hrecv := va_recv (q := (C, T, N)) hKs.1 (am_P hH) hc0 (am_ws_at (by rw [← am_ls_eq]; exact hc))
  have hp : PreV s H C (b + i) (fun a U => a = ((Value.ref i :: as).map (am_v b)).toArray ∧ am_H D cI cZ b ab U.heap ∧ am_K D cI cZ U) (as.map (am_v b)) := ⟨am_blind D cI cZ b (.ref i :: as) ab, hrecv, fun U hU hW => ⟨rfl, by rw [hU]; exact hH, am_K_warm hW hKs⟩⟩
  have fin : ∀ (H1 : Heap) (locs1 : List Loc), am_H D cI cZ b ab1 H1 → va_S (fun q => b ≤ q) s.heap H1 locs1 → W p l e (am_rm S) s m args below meth c H1 locs1 (k + (am_rm q).cells) (n + (am_rm q).slots) (MQ below (am_Q D cI cZ b r ab') args s (am_rm S).cells (am_rm S).slots (fun q => b ≤ q)) (F0 m (pc + 3) ls ((v.map (am_v b)).toList ++ rest.map (am_v b))) := by
    intro H1 locs1 g1 g2
    rw [am_stk]
    exact hk l D cI cZ b p e s m args below meth c H1 locs1 ls hC g1 g2 hL hlen
  rcases hV with ⟨hl, hse⟩ | ⟨owner, hl, hsm, hse, hmh, hdc⟩
  · exact am_after (va_runV (As := as.map (am_v b)) (b := b + i) (rest := rest.map (am_v b)) (nL := am_l S) (Ts := am_gw) ⟨hC.1, hC.2.1, hC.2.2.2.2.1, hC.2.2.2.2.2.1, hts⟩ (hE.2 l D cI cZ b) ⟨callB_of as.length hts (am_good hE.1) rfl rfl rfl (hts _ hq.2.2) (hts _ hl) hq.1 hq.2.1, hts _ hin, hts _ hse⟩ hp rfl (by simp) hL.1 (by simp [List.map_reverse, am_v]) (am_room8 b h8) hd ⟨h1, h2⟩) hS fin
  · have hdecl : va_Decl s ⟨owner, (am_y q).name, (am_y q).desc⟩ := by
      rcases hdc with h | h
      · rw [← h]; exact va_Decl.of (hts _ hin) (hts _ hE.1)
      · exact va_Decl.abs (hKs.2 _ h)
    have hcu : va_CU (am_rm S) s args (am_y S).cls C owner idx ⟨ref, (am_y q).name, (am_y q).desc⟩ (am_y q) (am_c q) (am_l q) (am_r q) (am_cw q :: am_gw) (am_rm q) (am_rm q).cells (am_rm q).slots as.length := by
      refine ⟨⟨rfl, rfl, hq.2.1.1, hq.2.1.2, pay_in hts (am_good hE.1), List.mem_cons_self⟩, hts _ hE.1, hts _ hq.2.2, hmh, fun sig h => ?_, hts _ hl, hts _ hsm, hdecl, hts _ hse, hts _ hin⟩
      have h2 := hq.1.2.2
      have h : parseMethodDescriptor (am_y q).desc = some sig := h
      rw [h] at h2
      exact (Option.some.inj h2).symm
    exact am_after (va_runU (As := as.map (am_v b)) (b := b + i) (rest := rest.map (am_v b)) (nL := am_l S) (Ts := am_gw) ⟨hC.1, hC.2.1, hC.2.2.2.2.1, hC.2.2.2.2.2.1, hts⟩ (hE.2 l D cI cZ b) hcu hp rfl (by simp) hL.1 (by simp [List.map_reverse, am_v]) (am_room8 b h8) hd ⟨h1, h2⟩) hS fin
theorem am_t_copy {N n0 n1 a0 a1 : Nat} {cn : Int32} {f g : Nat → Int32} (hd : decode (am_c S) pc = .ok (.invokestatic idx, 3)) (hl : Cond.methodLink (am_y S).cls idx arraycopyName ∈ am_gw) (hnat : Cond.native arraycopyName ∈ am_gw) (hst : Cond.static arraycopyName ∈ am_gw) (hini : Cond.initialized "java/lang/System" ∈ am_gw) (hf : 1 ≤ (am_rm S).frames) (ho : 8 + (nativeFrameWords "java/lang/System" "arraycopy" 5 + 11) ≤ (am_rm S).locals) (h8 : am_ct rest ≤ 8) (hn : ¬ cn < 0) (hN : cn.toNatClampNeg = N)
    (hc0 : am_ls ab a0 = some (.inl (false, n0, f))) (hc1 : am_ls ab a1 = some (.inl (false, n1, g))) (h4 : N ≤ n0) (h5 : N ≤ n1) (hk : am_T S r ab' (pc + 3) L rest (am_up ab a1 (.inl (false, n1, va_cpy f g 0 0 N))) k n) : am_T S r ab' pc L (.int cn :: .int 0 :: .ref a1 :: .int 0 :: .ref a0 :: rest) ab k n := by
  intro l D cI cZ b p e s m args below meth c H locs ls hC hH hS hL hlen
  have hts := hC.2.2.2.2.2.2.2.1
  have hKv := hC.2.2.2.2.2.2.2.2.1.1
  have nn : ∀ z : Int32, ¬ z < 0 → z.toInt = (z.toNatClampNeg : Int) := by
    intro z hz
    have hz0 : (0 : Int) ≤ z.toInt := by
      have := Int32.not_lt.mp hz
      simpa using Int32.le_iff_toInt_le.mp this
    show z.toInt = ((z.toInt.toNat : Nat) : Int)
    omega
  intro T hT X
  have e0 : H[b + a0]? = some (vp_cell cI (n0, .inl f)) := am_P hH a0 _ (am_ws_at (c := .inl (false, n0, f)) (by rw [← am_ls_eq]; exact hc0))
  have e1 : H[b + a1]? = some (vp_cell cI (n1, .inl g)) := am_P hH a1 _ (am_ws_at (c := .inl (false, n1, g)) (by rw [← am_ls_eq]; exact hc1))
  obtain ⟨-, k0, hk0, cm0, hkk0⟩ := (hKv.2 0 _ rfl).1 n0 (fun j => .int (f j))
  obtain ⟨-, k1, hk1, cm1, hkk1⟩ := (hKv.2 0 _ rfl).1 n1 (fun j => .int (g j))
  have z0 : ¬ (0 : Int32) < 0 := by decide
  have zc : (0 : Int32).toNatClampNeg = 0 := rfl
  obtain ⟨vm', X', step⟩ := X.arraycopy hC.1 hC.2.2.2.2.2.1 (hts _ hl) (hts _ hnat) (hts _ hst) (hts _ hini) (src := b + a0) (dst := b + a1) (cs := vp_cell cI (n0, .inl f)) (cd := vp_cell cI (n1, .inl g)) (srcPos := 0) (destPos := 0) (n := cn) (by rw [hT]; exact e0) (by rw [hT]; exact e1)
    (fun _ h => by cases h) (fun _ h => by cases h) (fun h => by cases h) (fun h => by cases h) hk0 hk1 hkk0 hkk1 (by simp [refKind]) z0 z0 hn
    (by rw [nn 0 z0, nn cn hn]; show ¬ _ > ((arrV cI n0 (fun j => .int (f j))).slots.size : Int); rw [arrV_size, zc, hN]; omega)
    (by rw [nn 0 z0, nn cn hn]; show ¬ _ > ((arrV cI n1 (fun j => .int (g j))).slots.size : Int); rw [arrV_size, zc, hN]; omega)
    (fun vm₁ _ i hi => by
      have e : (vp_cell cI (n0, .inl f)).slots.getD ((0 : Int32).toNatClampNeg + i) .null = .int (f ((0 : Int32).toNatClampNeg + i)) := by
        show (arrV cI n0 (fun j => .int (f j))).slots.getD _ _ = _
        rw [Array.getD_eq_getD_getElem?, arrV_read _ _ (by rw [hN] at hi; rw [zc]; omega)]
        rfl
      refine ⟨?_, ?_⟩
      · rw [e]
        rfl
      · rw [e]
        exact trivial)
    (g := F0 m pc ls (.int cn :: .int 0 :: .ref (b + a1) :: .int 0 :: .ref (b + a0) :: rest.map (am_v b))) rfl (by rw [hC.2.2.2.2.1]; exact hL.1) (rest := rest.map (am_v b)) rfl (by rw [hC.2.1]; exact hd) hf (by have := am_ct_eq b rest; show 2 * 0 + _ + _ ≤ _; rw [this]; omega)
  have e2 : copied (vp_cell cI (n0, .inl f)) (vp_cell cI (n1, .inl g)) 0 0 cn = vp_cell cI (n1, .inl (va_cpy f g 0 0 N)) := by
    have h := va_copied (n1 := n1) (sp := 0) (dp := 0) (n := cn.toNatClampNeg) (fun z => Value.int z) cI cI f g (n0 := n0) (by rw [hN]; omega)
    rw [← hN]
    exact h
  rw [e2] at X' step
  have hl2 : b + a1 < H.size := (Array.getElem?_eq_some_iff.mp e1).1
  have hheap : ((T.setVm vm').setCell (b + a1) (vp_cell cI (n1, .inl (va_cpy f g 0 0 N)))).heap = H.setIfInBounds (b + a1) (vp_cell cI (n1, .inl (va_cpy f g 0 0 N))) := by rw [← hT]; rfl
  have oq : ∀ q : Nat, q ≠ b + a1 → (H.setIfInBounds (b + a1) (vp_cell cI (n1, .inl (va_cpy f g 0 0 N))))[q]? = H[q]? := fun q hq => by simp [Array.getElem?_setIfInBounds, Ne.symm hq]
  have hz1 : (H.setIfInBounds (b + a1) (vp_cell cI (n1, .inl (va_cpy f g 0 0 N)))).size = H.size := by simp
  obtain ⟨t, g1, g2⟩ := hk l D cI cZ b p e s m args below meth c _ _ ls hC (am_H_set hH hc1 hz1 (show (H.setIfInBounds (b + a1) _)[b + a1]? = some _ by simp [Array.getElem?_setIfInBounds, hl2]) oq) ⟨by rw [hz1]; exact hS.1, fun q g1 g2 => by
      rw [oq q (fun e => g2 (by rw [e]; exact Nat.le_add_right b a1))]
      exact hS.2.1 q g1 g2, fun q hq => by
      rcases List.mem_append.mp hq with h | h
      · exact hS.2.2 q h
      · obtain ⟨z, -, hz⟩ := List.mem_map.mp h
        rw [← hz]
        exact Nat.le_add_right b a1⟩ hL hlen _ hheap X'
  exact ⟨t, step t g1, g2⟩
end AMC
end
section
/-! soundness of the small machine: rows are checked by a program, walks are sound -/
def am_at (i : Nat) (w : Cond) : Bool := match lw_tbl[i]? with
  | some u => decide (u = w) && goodWord w
  | none => false
def am_atb (i : Nat) (w : Cond) : Bool := match lw_tbl[i]? with
  | some u => decide (u = w) && am_isb w
  | none => false
theorem am_at_in {i : Nat} {w : Cond} (h : am_at i w = true) : w ∈ am_gw := by
  unfold am_at at h
  split at h
  · rename_i u hu
    simp only [Bool.and_eq_true, decide_eq_true_eq] at h
    rw [h.1] at hu
    exact am_mem hu h.2
  · cases h
theorem am_atb_in {i : Nat} {w : Cond} (h : am_atb i w = true) : w ∈ am_bw := by
  unfold am_atb at h
  split at h
  · rename_i u hu
    simp only [Bool.and_eq_true, decide_eq_true_eq] at h
    rw [h.1] at hu
    exact am_memb hu h.2
  · cases h
def am_fkb (own : String) (idx k : Nat) (ref : String) (p0 p1 : Nat) (ci : Nat) : Bool := match vwCl[ci]? with
  | some (_, T, N) => decide (k < N) && am_at p0 (.fieldLink own idx ref (T k).2.1 (T k).2.2.1) && (decide ((T k).1 = ref) || am_at p1 (.sameField ref (T k).1 (T k).2.1 (T k).2.2.1))
  | none => false
theorem am_fkb_ok {own ref : String} {idx k p0 p1 ci : Nat} (h : am_fkb own idx k ref p0 p1 ci = true) : am_fk own idx k ref ci := by
  unfold am_fkb at h
  split at h
  · rename_i C T N hc
    simp only [Bool.and_eq_true, Bool.or_eq_true, decide_eq_true_eq] at h
    exact ⟨C, T, N, hc, h.1.1, am_at_in h.1.2, h.2.imp id am_at_in⟩
  · cases h
def am_sob (sort : Int32) : Option FieldType → Bool
  | some .int => decide (sort = 0)
  | some .boolean => decide (sort = 1)
  | some (.object _) => decide (sort = 2)
  | some (.array _) => decide (sort = 2)
  | _ => false
def am_pkb (own nm : String) (idx k : Nat) (ref : String) (sort : Int32) (p0 p1 : Nat) (ci : Nat) : Bool := match vwCl[ci]? with
  | some (_, T, N) => decide (k < N) && am_at p0 (.fieldLink own idx ref (T k).2.1 (T k).2.2.1) && (decide ((T k).1 = ref) || am_at p1 (.sameField ref (T k).1 (T k).2.1 (T k).2.2.1)) && (decide ((T k).2.2.2 = false) || (decide ((T k).2.2.2 = true) && decide (nm = "<init>") && decide ((T k).1 = own))) && am_sob sort (parseFieldDescriptor (T k).2.2.1)
  | none => false
theorem am_pkb_ok {own nm ref : String} {sort : Int32} {idx k p0 p1 ci : Nat} (h : am_pkb own nm idx k ref sort p0 p1 ci = true) : am_pk own nm idx k ref ci sort := by
  unfold am_pkb at h
  split at h
  · rename_i C T N hc
    simp only [Bool.and_eq_true, Bool.or_eq_true, decide_eq_true_eq] at h
    obtain ⟨⟨⟨⟨h1, h2⟩, h3⟩, h4⟩, h5⟩ := h
    cases hp : parseFieldDescriptor (T k).2.2.1 with
    | none => rw [hp] at h5; cases h5
    | some ty =>
      rw [hp] at h5
      refine ⟨C, T, N, ty, hc, h1, am_at_in h2, h3.imp id am_at_in, h4.imp id (fun h => ⟨h.1.1, h.1.2, h.2⟩), hp, ?_⟩
      cases ty <;> first | (simp [am_sob] at h5; done) | (simp only [am_sob, decide_eq_true_eq] at h5; simp [h5])
  · cases h
def am_qkb (S q : am_Sg) (n p0 : Nat) : Bool := decide ((am_y q).cls ≠ "java/lang/invoke/MethodHandle") && decide ((am_y q).cls ≠ "java/lang/invoke/VarHandle") && decide ((parseMethodDescriptor (am_y q).desc).map (fun d => d.parameters.length) = some n) && decide ((am_rm q).frames + 1 ≤ (am_rm S).frames) && decide (8 + (am_l q + 11) + (am_rm q).locals ≤ (am_rm S).locals) && am_at p0 (.initialized (am_y q).cls)
theorem am_qkb_ok {S q : am_Sg} {n p0 : Nat} (h : am_qkb S q n p0 = true) : am_qk S q n := by
  simp only [am_qkb, Bool.and_eq_true, decide_eq_true_eq] at h
  exact ⟨⟨h.1.1.1.1.1, h.1.1.1.1.2, h.1.1.1.2⟩, ⟨h.1.1.2, h.1.2⟩, am_at_in h.2⟩
def am_lkb (own : String) (idx : Nat) (ref : String) (y : MethodName) (p0 : Nat) : Bool := (decide (ref = "") && am_at p0 (.methodLink own idx y)) || am_atb p0 (.methodLinkNest own idx y ref)
theorem am_lkb_ok {own ref : String} {idx p0 : Nat} {y : MethodName} (h : am_lkb own idx ref y p0 = true) : Cond.methodLink own idx y ∈ am_gw ∨ ∃ host, Cond.methodLinkNest own idx y host ∈ am_bw := by
  simp only [am_lkb, Bool.or_eq_true, Bool.and_eq_true, decide_eq_true_eq] at h
  exact h.imp (fun h => am_at_in h.2) (fun h => ⟨ref, am_atb_in h⟩)
/-- places: the callee as an instance method, the link, the selection, then the inherited name's, then its declaration -/
def am_vkb (own : String) (idx : Nat) (ref : String) (ci : Nat) (y : MethodName) (p0 p1 p2 p3 p4 : Nat) : Bool := match vwCl[ci]? with
  | some (C, _, _) => am_at p0 (.instanceMethod y) && ((decide (ref = "") && am_at p1 (.methodLink own idx y) && am_at p2 (.selects C y y)) || (match lw_tbl[p3]? with
    | some (.sameMethod _ owner _ _) => am_at p1 (.methodLink own idx ⟨ref, y.name, y.desc⟩) && am_at p3 (.sameMethod ref owner y.name y.desc) && am_at p2 (.selects C ⟨ref, y.name, y.desc⟩ y) && decide (owner ≠ "java/lang/invoke/MethodHandle") && decide (owner ≠ "java/lang/invoke/VarHandle") && (decide (y = ⟨owner, y.name, y.desc⟩) || am_atb p4 (.declares ⟨owner, y.name, y.desc⟩))
    | _ => false))
  | none => false
theorem am_vkb_ok {own ref : String} {idx ci p0 p1 p2 p3 p4 : Nat} {y : MethodName} (h : am_vkb own idx ref ci y p0 p1 p2 p3 p4 = true) : am_vk own idx ref ci y := by
  unfold am_vkb at h
  split at h
  · rename_i C T N hc
    simp only [Bool.and_eq_true, Bool.or_eq_true, decide_eq_true_eq] at h
    refine ⟨C, T, N, hc, am_at_in h.1, ?_⟩
    rcases h.2 with h2 | h2
    · exact Or.inl ⟨am_at_in h2.1.2, am_at_in h2.2⟩
    · split at h2
      · rename_i owner _ _ _
        simp only [Bool.and_eq_true, Bool.or_eq_true, decide_eq_true_eq] at h2
        exact Or.inr ⟨owner, am_at_in h2.1.1.1.1.1, am_at_in h2.1.1.1.1.2, am_at_in h2.1.1.1.2, ⟨h2.1.1.2, h2.1.2⟩, h2.2.imp id am_atb_in⟩
      · cases h2
  · cases h
def am_tl (pc : Nat) : Int → List Int → List (Int32 × Nat)
  | _, [] => []
  | lo, o :: l => (Int32.ofInt lo, ((pc : Int) + o).toNat) :: am_tl pc (lo + 1) l
def am_pl (pc : Nat) : List (Int × Int) → List (Int32 × Nat)
  | [] => []
  | q :: l => (Int32.ofInt q.1, ((pc : Int) + q.2).toNat) :: am_pl pc l
def am_p (ps : List Nat) (i : Nat) : Nat := ps.getD i 0
def am_vall (S : am_Sg) (idx n : Nat) (ref : String) : List (Nat × am_Sg) → List Nat → Bool
  | [], _ => true
  | q :: l, ps => am_qkb S q.2 n (am_p ps 0) && am_vkb (am_y S).cls idx ref q.1 (am_y q.2) (am_p ps 1) (am_p ps 2) (am_p ps 3) (am_p ps 4) (am_p ps 5) && am_vall S idx n ref l (ps.drop 6)
theorem am_vall_ok {S : am_Sg} {idx n : Nat} {ref : String} : ∀ {l : List (Nat × am_Sg)} {ps : List Nat}, am_vall S idx n ref l ps = true → ∀ q ∈ l, am_qk S q.2 n ∧ am_vk (am_y S).cls idx ref q.1 (am_y q.2)
  | [], _, _, q, hq => by cases hq
  | a :: l, ps, h, q, hq => by
    simp only [am_vall, Bool.and_eq_true] at h
    rcases List.mem_cons.mp hq with rfl | hq
    · exact ⟨am_qkb_ok h.1.1, am_vkb_ok h.1.2⟩
    · exact am_vall_ok h.2 q hq
/-- the check of a row -/
def am_rkb (S : am_Sg) (pc : Nat) (w : am_Rw) : Bool := match w.1 with
  | .iconst i => decide (decode (am_c S) pc = .ok (.iconst i, 1)) && decide (Int32.ofInt i = w_v w)
  | .bipush i => decide (decode (am_c S) pc = .ok (.bipush i, 2)) && decide ((Int8.ofInt i).toInt32 = w_v w)
  | .sipush i => decide (decode (am_c S) pc = .ok (.sipush i, 3)) && decide ((Int16.ofInt i).toInt32 = w_v w)
  | .ldc i => decide (decode (am_c S) pc = .ok (.ldc i, 2)) && am_at (am_p (w_ps w) 0) (.constant (am_y S).cls i (w_v w))
  | .iinc i d => decide (decode (am_c S) pc = .ok (.iinc i d, 3)) && decide (Int32.ofInt d = w_v w)
  | .iload i => decide (decode (am_c S) pc = .ok (.iload i, 2))
  | .istore i => decide (decode (am_c S) pc = .ok (.istore i, 2))
  | .if_icmp c o => decide (decode (am_c S) pc = .ok (.if_icmp c o, 3)) && decide ((pc : Int) + o = (w_k w : Int))
  | .ifCond c o => decide (decode (am_c S) pc = .ok (.ifCond c o, 3)) && decide ((pc : Int) + o = (w_k w : Int))
  | .ifnonnull o => decide (decode (am_c S) pc = .ok (.ifnonnull o, 3)) && decide ((pc : Int) + o = (w_k w : Int))
  | .goto o => decide (decode (am_c S) pc = .ok (.goto o, 3)) && decide ((pc : Int) + o = (w_k w : Int))
  | .tableswitch d lo hi os => (match decode (am_c S) pc with
    | .ok (i, _) => decide (i = .tableswitch d lo hi os)
    | _ => false) && decide ((pc : Int) + d = (w_k w : Int)) && decide (w_sw w = am_tl pc lo os.toList) && os.toList.all (fun o => decide (0 ≤ (pc : Int) + o)) && decide (hi + 1 = lo + os.toList.length) && decide (-2147483648 ≤ lo) && decide (hi < 2147483648)
  | .lookupswitch d qs => (match decode (am_c S) pc with
    | .ok (i, _) => decide (i = .lookupswitch d qs)
    | _ => false) && decide ((pc : Int) + d = (w_k w : Int)) && decide (w_sw w = am_pl pc qs.toList) && qs.toList.all (fun o => decide (0 ≤ (pc : Int) + o.2)) && qs.toList.all (fun o => decide ((Int32.ofInt o.1).toInt = o.1)) && (qs.toList.zip (qs.toList.drop 1)).all (fun (a, next) => a.1 < next.1) && (am_pl pc qs.toList).all (fun q => (am_pl pc qs.toList).all (fun q2 => !(decide (q.1 = q2.1)) || decide (q.2 = q2.2)))
  | .getfield i => decide (decode (am_c S) pc = .ok (.getfield i, 3)) && (w_cs w).all (am_fkb (am_y S).cls i (w_k w) (w_r w) (am_p (w_ps w) 0) (am_p (w_ps w) 1))
  | .putfield i => decide (decode (am_c S) pc = .ok (.putfield i, 3)) && (w_cs w).all (am_pkb (am_y S).cls (am_y S).name i (w_k w) (w_r w) (w_v w) (am_p (w_ps w) 0) (am_p (w_ps w) 1))
  | .newarray t => decide (decode (am_c S) pc = .ok (.newarray t, 2)) && am_at (am_p (w_ps w) 0) (.arrayClass (newarray.typeOf t)) && (decide (t = .int) || decide (t = .boolean)) && decide (¬ w_v w < 0) && decide ((w_v w).toNatClampNeg = w_k w) && decide (w_k w * 8 ≤ 536870912)
  | .new i => decide (decode (am_c S) pc = .ok (.new i, 3)) && (match vwCl[w_k w]? with
    | some (C, _, N) => decide (N = (am_df (w_k w)).length) && am_at (am_p (w_ps w) 0) (.classLink (am_y S).cls i C) && am_at (am_p (w_ps w) 1) (.instantiable C (am_df (w_k w)).length) && am_at (am_p (w_ps w) 2) (.initialized C)
    | none => false)
  | .invokestatic i => decide (decode (am_c S) pc = .ok (.invokestatic i, 3)) && (match w_qs w with
    | q :: _ => am_qkb S q.2 (w_k w) (am_p (w_ps w) 0) && am_at (am_p (w_ps w) 1) (.static (am_y q.2)) && am_lkb (am_y S).cls i (w_r w) (am_y q.2) (am_p (w_ps w) 2)
    | [] => match w_cs w with
      | [] => am_at (am_p (w_ps w) 0) (.methodLink (am_y S).cls i Lib.Math.min.name) && am_at (am_p (w_ps w) 1) (.static Lib.Math.min.name) && am_at (am_p (w_ps w) 2) (.initialized "java/lang/Math") && am_at (am_p (w_ps w) 3) (.code Lib.Math.min.name Lib.Math.min.code 2 (some .int)) && decide (1 ≤ (am_rm S).frames) && decide (21 ≤ (am_rm S).locals)
      | _ => am_at (am_p (w_ps w) 0) (.methodLink (am_y S).cls i arraycopyName) && am_at (am_p (w_ps w) 1) (.native arraycopyName) && am_at (am_p (w_ps w) 2) (.static arraycopyName) && am_at (am_p (w_ps w) 3) (.initialized "java/lang/System") && decide (1 ≤ (am_rm S).frames) && decide (8 + (nativeFrameWords "java/lang/System" "arraycopy" 5 + 11) ≤ (am_rm S).locals) && decide (¬ w_v w < 0) && decide ((w_v w).toNatClampNeg = w_k w))
  | .invokevirtual i => decide (decode (am_c S) pc = .ok (.invokevirtual i, 3)) && am_vall S i (w_k w) (w_r w) (w_qs w) (w_ps w)
  | .invokespecial i => decide (decode (am_c S) pc = .ok (.invokespecial i, 3)) && (match w_qs w with
    | q :: _ => am_qkb S q.2 (w_k w) (am_p (w_ps w) 0) && am_at (am_p (w_ps w) 1) (.instanceMethod (am_y q.2)) && decide ((am_y q.2).name = "<init>") && decide (am_r q.2 = none) && am_lkb (am_y S).cls i (w_r w) (am_y q.2) (am_p (w_ps w) 2)
    | [] => am_at (am_p (w_ps w) 0) (.methodLink (am_y S).cls i Lib.objectInit) && am_at (am_p (w_ps w) 1) (.instanceMethod Lib.objectInit) && am_at (am_p (w_ps w) 2) (.code Lib.objectInit ⟨#[0xb1]⟩ 1 none) && decide (1 ≤ (am_rm S).frames) && decide (20 ≤ (am_rm S).locals))
  | i => decide (decode (am_c S) pc = .ok (i, 1))
def am_Good (S : am_Sg) (cd : am_Cd) : Prop := cd.all (fun ch => ch.2.all (fun q => am_rkb S q.1 q.2)) = true
theorem am_fr_ok {pc : Nat} {q : Nat × am_Rw} : ∀ {l : List (Nat × am_Rw)}, am_fr pc l = some q → q ∈ l ∧ q.1 = pc
  | [], h => by simp [am_fr] at h
  | a :: l, h => by
    rw [am_fr] at h
    cases hb : Nat.beq a.1 pc with
    | true =>
      rw [hb] at h
      have e : a = q := by simpa using h
      rw [← e]
      exact ⟨List.mem_cons_self, Nat.eq_of_beq_eq_true hb⟩
    | false =>
      rw [hb] at h
      have := am_fr_ok (show am_fr pc l = some q by simpa using h)
      exact ⟨List.mem_cons_of_mem _ this.1, this.2⟩
theorem am_lk_ok {pc : Nat} {q : Nat × am_Rw} : ∀ {l : am_Cd}, am_lk pc l = some q → (∃ ch ∈ l, q ∈ ch.2) ∧ q.1 = pc
  | [], h => by simp [am_lk] at h
  | a :: l, h => by
    rw [am_lk] at h
    cases hb : Nat.blt pc a.1 with
    | true =>
      rw [hb] at h
      have := am_fr_ok (show am_fr pc a.2 = some q by simpa using h)
      exact ⟨⟨a, List.mem_cons_self, this.1⟩, this.2⟩
    | false =>
      rw [hb] at h
      obtain ⟨⟨ch, h1, h2⟩, h3⟩ := am_lk_ok (show am_lk pc l = some q by simpa using h)
      exact ⟨⟨ch, List.mem_cons_of_mem _ h1, h2⟩, h3⟩
theorem am_Good_row {S : am_Sg} {cd : am_Cd} (hg : am_Good S cd) {pc : Nat} {q : Nat × am_Rw} (h : am_lk pc cd = some q) : am_rkb S q.1 q.2 = true ∧ q.1 = pc := by
  obtain ⟨⟨ch, h1, h2⟩, h3⟩ := am_lk_ok h
  exact ⟨List.all_eq_true.mp (List.all_eq_true.mp hg ch h1) q h2, h3⟩
section AMS
variable {S : am_Sg} {r : Option Value} {ab' : List am_Cl} {K : am_Ps} {pc : Nat} {L rest : List Value} {ab : List am_Cl} {k n : Nat}
theorem am_go_T (hK : ∀ pc L st ab k n, K pc L st ab k n → am_T S r ab' pc L st ab k n) {t : Nat} {st : List Value} (h : am_go K (am_T S r ab') pc t L st ab k n) : am_T S r ab' t L st ab k n := by
  unfold am_go at h
  cases hb : Nat.blt pc t with
  | true => rw [hb] at h; exact hK _ _ _ _ _ _ h
  | false => rw [hb] at h; exact h
theorem am_ic_imp {c : ClassFile.Cond} {x y : Int32} {A A' B B' : Prop} (hA : A → A') (hB : B → B') (h : am_ic c x y A B) : am_ic c x y A' B' := by
  cases c <;> first | exact ⟨fun q => hA (h.1 q), fun q => hB (h.2 q)⟩ | exact ⟨fun q => hB (h.1 q), fun q => hA (h.2 q)⟩
theorem am_sw_T (hK : ∀ pc L st ab k n, K pc L st ab k n → am_T S r ab' pc L st ab k n) {d : Nat} {x : Int32} {st : List Value} : ∀ {l : List (Int32 × Nat)}, am_sw K (am_T S r ab') pc d x L st ab k n l → (∃ q ∈ l, x = q.1 ∧ am_T S r ab' q.2 L st ab k n) ∨ ((∀ q ∈ l, ¬ x = q.1) ∧ am_T S r ab' d L st ab k n)
  | [], h => Or.inr ⟨fun q hq => absurd hq List.not_mem_nil, am_go_T hK h⟩
  | a :: l, h => by
    by_cases hx : x = a.1
    · exact Or.inl ⟨a, List.mem_cons_self, hx, am_go_T hK (h.1 hx)⟩
    · rcases am_sw_T hK (h.2 hx) with ⟨q, h1, h2, h3⟩ | ⟨h1, h2⟩
      · exact Or.inl ⟨q, List.mem_cons_of_mem _ h1, h2, h3⟩
      · refine Or.inr ⟨fun q hq => ?_, h2⟩
        rcases List.mem_cons.mp hq with rfl | hq
        · exact hx
        · exact h1 q hq
theorem am_tl_mem {pc : Nat} {q : Int32 × Nat} : ∀ {os : List Int} {lo : Int}, q ∈ am_tl pc lo os → ∃ (j : Nat) (o : Int), os[j]? = some o ∧ q = (Int32.ofInt (lo + j), ((pc : Int) + o).toNat)
  | [], lo, h => by simp [am_tl] at h
  | o :: os, lo, h => by
    rw [am_tl] at h
    rcases List.mem_cons.mp h with rfl | h
    · exact ⟨0, o, rfl, by simp⟩
    · obtain ⟨j, o', h1, h2⟩ := am_tl_mem h
      exact ⟨j + 1, o', by simpa using h1, by rw [h2]; congr 2; push_cast; omega⟩
theorem am_tl_get {pc : Nat} : ∀ {os : List Int} {lo : Int} {j : Nat} {o : Int}, os[j]? = some o → (Int32.ofInt (lo + j), ((pc : Int) + o).toNat) ∈ am_tl pc lo os
  | [], lo, j, o, h => by simp at h
  | a :: os, lo, 0, o, h => by
    simp at h
    subst h
    rw [am_tl]
    simp
  | a :: os, lo, j + 1, o, h => by
    rw [am_tl]
    have := am_tl_get (pc := pc) (lo := lo + 1) (show os[j]? = some o by simpa using h)
    refine List.mem_cons_of_mem _ ?_
    have e : lo + 1 + (j : Int) = lo + ((j + 1 : Nat) : Int) := by push_cast; omega
    rw [e] at this
    exact this
theorem am_toInt {z : Int} (h1 : -2147483648 ≤ z) (h2 : z < 2147483648) : (Int32.ofInt z).toInt = z := Int32.toInt_ofInt_of_le h1 h2
theorem am_t_table {d lo hi : Int} {os : Array Int} {len : Nat} {x : Int32} {t : Nat} {sw : List (Int32 × Nat)} (hd : decode (am_c S) pc = .ok (.tableswitch d lo hi os, len)) (ht : (pc : Int) + d = (t : Int)) (hsw : sw = am_tl pc lo os.toList) (hpos : ∀ o ∈ os.toList, 0 ≤ (pc : Int) + o) (hhi : hi + 1 = lo + os.toList.length) (h1 : -2147483648 ≤ lo) (h2 : hi < 2147483648)
    (h : (∃ q ∈ sw, x = q.1 ∧ am_T S r ab' q.2 L rest ab k n) ∨ ((∀ q ∈ sw, ¬ x = q.1) ∧ am_T S r ab' t L rest ab k n)) : am_T S r ab' pc L (.int x :: rest) ab k n := by
  intro l D cI cZ b p e s m args below meth c H locs ls hC hH hS hL hlen
  subst hsw
  rcases h with ⟨q, hq, hx, hk⟩ | ⟨hne, hk⟩
  · obtain ⟨j, o, hj, rfl⟩ := am_tl_mem hq
    have hjl : j < os.toList.length := (List.getElem?_eq_some_iff.mp hj).1
    have hxi : x.toInt = lo + j := by rw [hx]; exact am_toInt (by omega) (by omega)
    have ho : 0 ≤ (pc : Int) + o := hpos o (List.mem_of_getElem? hj)
    refine lv_tableIn (tgt := ((pc : Int) + o).toNat) (off := o) hC.1 hC.2.1 hd (by omega) (by omega) ?_ (by omega) (hk l D cI cZ b p e s m args below meth c H locs ls hC hH hS hL hlen)
    rw [hxi, show (lo + (j : Int) - lo).toNat = j by omega, ← Array.getElem?_toList]
    exact hj
  · refine lv_tableOut (tgt := t) hC.1 hC.2.1 hd ?_ ht (hk l D cI cZ b p e s m args below meth c H locs ls hC hH hS hL hlen)
    rcases Int.lt_or_le x.toInt lo with g | g
    · exact Or.inl g
    · rcases Int.lt_or_le hi x.toInt with g2 | g2
      · exact Or.inr g2
      · exfalso
        have hlt : (x.toInt - lo).toNat < os.toList.length := by omega
        have := am_tl_get (pc := pc) (lo := lo) (List.getElem?_eq_getElem hlt)
        refine hne _ this ?_
        show x = Int32.ofInt (lo + ((x.toInt - lo).toNat : Int))
        rw [show lo + ((x.toInt - lo).toNat : Int) = x.toInt by omega]
        exact (Int32.ofInt_toInt x).symm
theorem am_off {pc t : Nat} {d : Int} {x : Int32} {P : Nat → Prop} (ht : (pc : Int) + d = (t : Int)) : ∀ {qs : List (Int × Int)}, (∀ o ∈ qs, 0 ≤ (pc : Int) + o.2) → (∀ o ∈ qs, (Int32.ofInt o.1).toInt = o.1) → ((∃ q ∈ am_pl pc qs, x = q.1 ∧ P q.2) ∨ ((∀ q ∈ am_pl pc qs, ¬ x = q.1) ∧ P t)) → (∀ q q2 : Int32 × Nat, q ∈ am_pl pc qs → q2 ∈ am_pl pc qs → q.1 = q2.1 → q.2 = q2.2) → ∃ (off : Int) (tg : Nat), Op.lookupswitch.offset qs d x.toInt = off ∧ (pc : Int) + off = (tg : Int) ∧ P tg
  | [], _, _, h, _ => by
    rcases h with ⟨q, hq, -⟩ | ⟨-, h⟩
    · simp [am_pl] at hq
    · exact ⟨d, t, rfl, ht, h⟩
  | a :: qs, h1, h2, h, hu => by
    by_cases hx : x = Int32.ofInt a.1
    · refine ⟨a.2, ((pc : Int) + a.2).toNat, ?_, ?_, ?_⟩
      · obtain ⟨a1, a2⟩ := a
        rw [Op.lookupswitch.offset_cons, if_pos]
        rw [hx]
        exact (h2 (a1, a2) List.mem_cons_self).symm
      · have := h1 a List.mem_cons_self
        omega
      · rcases h with ⟨q, hq, hxq, hp⟩ | ⟨hne, -⟩
        · have e := hu q (Int32.ofInt a.1, ((pc : Int) + a.2).toNat) hq (by rw [am_pl]; exact List.mem_cons_self) (by rw [← hxq]; exact hx)
          exact (show q.2 = ((pc : Int) + a.2).toNat from e) ▸ hp
        · exact absurd hx (hne (Int32.ofInt a.1, ((pc : Int) + a.2).toNat) (by rw [am_pl]; exact List.mem_cons_self))
    · obtain ⟨off, tg, g1, g2, g3⟩ := am_off ht (qs := qs) (fun o ho => h1 o (List.mem_cons_of_mem _ ho)) (fun o ho => h2 o (List.mem_cons_of_mem _ ho)) (by
        rcases h with ⟨q, hq, hxq, hp⟩ | ⟨hne, hp⟩
        · rw [am_pl] at hq
          rcases List.mem_cons.mp hq with rfl | hq
          · exact absurd hxq hx
          · exact Or.inl ⟨q, hq, hxq, hp⟩
        · exact Or.inr ⟨fun q hq => hne q (by rw [am_pl]; exact List.mem_cons_of_mem _ hq), hp⟩) (fun q q2 g1 g2 => hu q q2 (by rw [am_pl]; exact List.mem_cons_of_mem _ g1) (by rw [am_pl]; exact List.mem_cons_of_mem _ g2))
      refine ⟨off, tg, ?_, g2, g3⟩
      obtain ⟨a1, a2⟩ := a
      rw [lv_osw hx (h2 (a1, a2) List.mem_cons_self)]
      exact g1
end AMS
end
section
/-! soundness of the small machine: a walk -/
section AMW
variable {S : am_Sg} {r : Option Value} {ab' : List am_Cl} {K : am_Ps} {pc : Nat} {L rest : List Value} {ab : List am_Cl} {k n : Nat}
theorem am_t_lookup {d : Int} {qs : Array (Int × Int)} {len : Nat} {x : Int32} {t : Nat} {sw : List (Int32 × Nat)} (hd : decode (am_c S) pc = .ok (.lookupswitch d qs, len)) (ht : (pc : Int) + d = (t : Int)) (hsw : sw = am_pl pc qs.toList) (hpos : ∀ o ∈ qs.toList, 0 ≤ (pc : Int) + o.2) (hint : ∀ o ∈ qs.toList, (Int32.ofInt o.1).toInt = o.1) (hso : (qs.toList.zip (qs.toList.drop 1)).all (fun (a, next) => a.1 < next.1) = true) (hu : ∀ q q2 : Int32 × Nat, q ∈ am_pl pc qs.toList → q2 ∈ am_pl pc qs.toList → q.1 = q2.1 → q.2 = q2.2)
    (h : (∃ q ∈ sw, x = q.1 ∧ am_T S r ab' q.2 L rest ab k n) ∨ ((∀ q ∈ sw, ¬ x = q.1) ∧ am_T S r ab' t L rest ab k n)) : am_T S r ab' pc L (.int x :: rest) ab k n := by
  intro l D cI cZ b p e s m args below meth c H locs ls hC hH hS hL hlen
  subst hsw
  obtain ⟨off, tg, g1, g2, g3⟩ := am_off (P := fun t => am_T S r ab' t L rest ab k n) ht hpos hint h hu
  exact lv_lookup hC.1 hC.2.1 hd hso g1 g2 (g3 l D cI cZ b p e s m args below meth c H locs ls hC hH hS hL hlen)
theorem am_cal_T (hK : ∀ pc L st ab k n, K pc L st ab k n → am_T S r ab' pc L st ab k n) {q : am_Sg} {as : List Value} (h : am_cal S q K pc as L rest ab k n) : ∃ (v : Option Value) (ab1 : List am_Cl), am_ct rest ≤ 8 ∧ k + (am_rm q).cells ≤ (am_rm S).cells ∧ n + (am_rm q).slots ≤ (am_rm S).slots ∧ am_Ev q as ab v ab1 ∧ am_T S r ab' pc L (v.toList ++ rest) ab1 (k + (am_rm q).cells) (n + (am_rm q).slots) := by
  unfold am_cal at h
  cases hb : (Nat.ble (am_ct rest) 8 && Nat.ble (k + (am_rm q).cells) (am_rm S).cells && Nat.ble (n + (am_rm q).slots) (am_rm S).slots) with
  | false => rw [hb] at h; exact h.elim
  | true =>
    rw [hb] at h
    simp only [Bool.and_eq_true, Nat.ble_eq] at hb
    obtain ⟨v, ab1, h1, h2⟩ := h
    refine ⟨v, ab1, hb.1.1, hb.1.2, hb.2, h1, ?_⟩
    cases hz : (Nat.beq (am_rm q).cells 0 && Nat.beq (am_rm q).slots 0) with
    | false => rw [hz] at h2; exact hK _ _ _ _ _ _ h2
    | true =>
      rw [hz] at h2
      simp only [Bool.and_eq_true] at hz
      rw [Nat.eq_of_beq_eq_true hz.1, Nat.eq_of_beq_eq_true hz.2]
      exact hK _ _ _ _ _ _ h2
set_option maxHeartbeats 4000000 in
theorem am_s1_T (hK : ∀ pc L st ab k n, K pc L st ab k n → am_T S r ab' pc L st ab k n) {w : am_Rw} (hw : am_rkb S pc w = true) {st : List Value} (h : am_s1 S r ab' (am_T S r ab') K w pc L st ab k n) : am_T S r ab' pc L st ab k n := by
  obtain ⟨ins, aux, lit, ref, cs, qs, sw, ps⟩ := w
  cases ins with
  | iconst i =>
    simp only [am_rkb, Bool.and_eq_true, decide_eq_true_eq] at hw
    exact am_t_iconst hw.1 hw.2 (hK _ _ _ _ _ _ h)
  | bipush i =>
    simp only [am_rkb, Bool.and_eq_true, decide_eq_true_eq] at hw
    exact am_t_bipush hw.1 hw.2 (hK _ _ _ _ _ _ h)
  | sipush i =>
    simp only [am_rkb, Bool.and_eq_true, decide_eq_true_eq] at hw
    exact am_t_sipush hw.1 hw.2 (hK _ _ _ _ _ _ h)
  | ldc i =>
    simp only [am_rkb, Bool.and_eq_true, decide_eq_true_eq] at hw
    exact am_t_ldc hw.1 (am_at_in hw.2) (hK _ _ _ _ _ _ h)
  | iload_n i =>
    simp only [am_rkb, decide_eq_true_eq] at hw
    simp only [am_s1] at h
    split at h
    · rename_i x hx; exact am_t_iload_n hw hx (hK _ _ _ _ _ _ h)
    · exact h.elim
  | iload i =>
    simp only [am_rkb, decide_eq_true_eq] at hw
    simp only [am_s1] at h
    split at h
    · rename_i x hx; exact am_t_iload hw hx (hK _ _ _ _ _ _ h)
    · exact h.elim
  | aload_n i =>
    simp only [am_rkb, decide_eq_true_eq] at hw
    simp only [am_s1] at h
    split at h
    · rename_i x hx; exact am_t_aload_n hw hx (hK _ _ _ _ _ _ h)
    · rename_i hx; exact am_t_aload_nN hw hx (hK _ _ _ _ _ _ h)
    · exact h.elim
  | istore_n i =>
    simp only [am_rkb, decide_eq_true_eq] at hw
    simp only [am_s1] at h
    split at h
    · split at h
      · rename_i hu; exact am_t_istore_n hw hu (hK _ _ _ _ _ _ h)
      · exact h.elim
    · exact h.elim
  | istore i =>
    simp only [am_rkb, decide_eq_true_eq] at hw
    simp only [am_s1] at h
    split at h
    · split at h
      · rename_i hu; exact am_t_istore hw hu (hK _ _ _ _ _ _ h)
      · exact h.elim
    · exact h.elim
  | astore_n i =>
    simp only [am_rkb, decide_eq_true_eq] at hw
    simp only [am_s1] at h
    split at h
    · split at h
      · rename_i hu; exact am_t_astore_n hw hu (hK _ _ _ _ _ _ h)
      · exact h.elim
    · split at h
      · rename_i hu; exact am_t_astore_nN hw hu (hK _ _ _ _ _ _ h)
      · exact h.elim
    · exact h.elim
  | iinc i d =>
    simp only [am_rkb, Bool.and_eq_true, decide_eq_true_eq] at hw
    simp only [am_s1] at h
    split at h
    · rename_i hu; exact am_t_iinc hw.1 hw.2 hu (hK _ _ _ _ _ _ h)
    · exact h.elim
  | iadd =>
    simp only [am_rkb, decide_eq_true_eq] at hw
    simp only [am_s1] at h
    split at h
    · exact am_t_iadd hw (hK _ _ _ _ _ _ h)
    · exact h.elim
  | isub =>
    simp only [am_rkb, decide_eq_true_eq] at hw
    simp only [am_s1] at h
    split at h
    · exact am_t_isub hw (hK _ _ _ _ _ _ h)
    · exact h.elim
  | imul =>
    simp only [am_rkb, decide_eq_true_eq] at hw
    simp only [am_s1] at h
    split at h
    · exact am_t_imul hw (hK _ _ _ _ _ _ h)
    · exact h.elim
  | iand =>
    simp only [am_rkb, decide_eq_true_eq] at hw
    simp only [am_s1] at h
    split at h
    · exact am_t_iand hw (hK _ _ _ _ _ _ h)
    · exact h.elim
  | ior =>
    simp only [am_rkb, decide_eq_true_eq] at hw
    simp only [am_s1] at h
    split at h
    · exact am_t_ior hw (hK _ _ _ _ _ _ h)
    · exact h.elim
  | ishl =>
    simp only [am_rkb, decide_eq_true_eq] at hw
    simp only [am_s1] at h
    split at h
    · exact am_t_ishl hw (hK _ _ _ _ _ _ h)
    · exact h.elim
  | ishr =>
    simp only [am_rkb, decide_eq_true_eq] at hw
    simp only [am_s1] at h
    split at h
    · exact am_t_ishr hw (hK _ _ _ _ _ _ h)
    · exact h.elim
  | iushr =>
    simp only [am_rkb, decide_eq_true_eq] at hw
    simp only [am_s1] at h
    split at h
    · exact am_t_iushr hw (hK _ _ _ _ _ _ h)
    · exact h.elim
  | idiv =>
    simp only [am_rkb, decide_eq_true_eq] at hw
    simp only [am_s1] at h
    split at h
    · rename_i y x rest
      by_cases hy : y = 0
      · simp only [hy, decide_true, cond_true] at h
      · simp only [hy, decide_false, cond_false] at h
        exact am_t_idiv hw hy (hK _ _ _ _ _ _ h)
    · exact h.elim
  | irem =>
    simp only [am_rkb, decide_eq_true_eq] at hw
    simp only [am_s1] at h
    split at h
    · rename_i y x rest
      by_cases hy : y = 0
      · simp only [hy, decide_true, cond_true] at h
      · simp only [hy, decide_false, cond_false] at h
        exact am_t_irem hw hy (hK _ _ _ _ _ _ h)
    · exact h.elim
  | dup =>
    simp only [am_rkb, decide_eq_true_eq] at hw
    simp only [am_s1] at h
    split at h
    · rename_i v rest
      cases hv : am_ok v with
      | false => simp only [hv, cond_false] at h
      | true =>
        simp only [hv, cond_true] at h
        exact am_t_dup hw hv (hK _ _ _ _ _ _ h)
    · exact h.elim
  | dup2 =>
    simp only [am_rkb, decide_eq_true_eq] at hw
    simp only [am_s1] at h
    split at h
    · rename_i u v rest
      cases hv : (am_ok u && am_ok v) with
      | false => simp only [hv, cond_false] at h
      | true =>
        simp only [hv, cond_true] at h
        simp only [Bool.and_eq_true] at hv
        exact am_t_dup2 hw hv.1 hv.2 (hK _ _ _ _ _ _ h)
    · exact h.elim
  | pop =>
    simp only [am_rkb, decide_eq_true_eq] at hw
    simp only [am_s1] at h
    split at h
    · rename_i v rest
      cases hv : am_ok v with
      | false => simp only [hv, cond_false] at h
      | true =>
        simp only [hv, cond_true] at h
        exact am_t_pop hw hv (hK _ _ _ _ _ _ h)
    · exact h.elim
  | aconst_null =>
    simp only [am_rkb, decide_eq_true_eq] at hw
    exact am_t_null hw (hK _ _ _ _ _ _ h)
  | if_icmp c o =>
    simp only [am_rkb, Bool.and_eq_true, decide_eq_true_eq] at hw
    simp only [am_s1] at h
    split at h
    · exact am_t_icmp hw.1 hw.2 (am_ic_imp (am_go_T hK) (hK _ _ _ _ _ _) h)
    · exact h.elim
  | ifCond c o =>
    simp only [am_rkb, Bool.and_eq_true, decide_eq_true_eq] at hw
    simp only [am_s1] at h
    split at h
    · exact am_t_if hw.1 hw.2 (am_ic_imp (am_go_T hK) (hK _ _ _ _ _ _) h)
    · exact h.elim
  | ifnonnull o =>
    simp only [am_rkb, Bool.and_eq_true, decide_eq_true_eq] at hw
    simp only [am_s1] at h
    split at h
    · exact am_t_ifnonnull hw.1 hw.2 (am_go_T hK h)
    · exact am_t_ifnonnullN hw.1 (hK _ _ _ _ _ _ h)
    · exact h.elim
  | goto o =>
    simp only [am_rkb, Bool.and_eq_true, decide_eq_true_eq] at hw
    exact am_t_goto hw.1 hw.2 (am_go_T hK h)
  | tableswitch d lo hi os =>
    simp only [am_rkb, Bool.and_eq_true, decide_eq_true_eq, List.all_eq_true] at hw
    obtain ⟨⟨⟨⟨⟨⟨h1, h2⟩, h3⟩, h4⟩, h5⟩, h6⟩, h7⟩ := hw
    simp only [am_s1] at h
    split at h
    · split at h1
      · rename_i i len hd
        rw [decide_eq_true_eq] at h1
        rw [h1] at hd
        exact am_t_table hd h2 h3 h4 h5 h6 h7 (am_sw_T hK h)
      · cases h1
    · exact h.elim
  | lookupswitch d qs =>
    simp only [am_rkb, Bool.and_eq_true] at hw
    obtain ⟨⟨⟨⟨⟨⟨h1, h2⟩, h3⟩, h4⟩, h5⟩, h6⟩, h7⟩ := hw
    simp only [am_s1] at h
    split at h
    · split at h1
      · rename_i i len hd
        rw [decide_eq_true_eq] at h1 h2 h3
        rw [h1] at hd
        simp only [List.all_eq_true, decide_eq_true_eq] at h4 h5
        refine am_t_lookup hd h2 h3 h4 h5 h6 ?_ (am_sw_T hK h)
        intro q q2 hq hq2 he
        have := List.all_eq_true.mp (List.all_eq_true.mp h7 q hq) q2 hq2
        simpa [he] using this
      · cases h1
    · exact h.elim
  | getfield i =>
    simp only [am_rkb, Bool.and_eq_true, decide_eq_true_eq, List.all_eq_true] at hw
    simp only [am_s1] at h
    split at h
    · split at h
      · rename_i ci fs hc
        cases hv : am_in cs ci with
        | false => simp only [hv, cond_false] at h
        | true =>
          simp only [hv, cond_true] at h
          split at h
          · rename_i v hv2
            exact am_t_getfield hw.1 (am_fkb_ok (hw.2 _ (am_in_mem hv))) hc hv2 (hK _ _ _ _ _ _ h)
          · exact h.elim
      · exact h.elim
    · exact h.elim
  | putfield i =>
    simp only [am_rkb, Bool.and_eq_true, decide_eq_true_eq, List.all_eq_true] at hw
    simp only [am_s1] at h
    split at h
    · rename_i v j rest
      split at h
      · rename_i ci fs hc
        cases hv : (am_in cs ci && am_fv lit v) with
        | false => simp only [hv, cond_false] at h
        | true =>
          simp only [hv, cond_true] at h
          simp only [Bool.and_eq_true] at hv
          split at h
          · rename_i u hu
            exact am_t_putfield hw.1 (am_pkb_ok (hw.2 _ (am_in_mem hv.1))) hc hu hv.2 (hK _ _ _ _ _ _ h)
          · exact h.elim
      · exact h.elim
    · exact h.elim
  | iaload =>
    simp only [am_rkb, decide_eq_true_eq] at hw
    simp only [am_s1] at h
    split at h
    · split at h
      · rename_i hc; exact am_t_iaload hw hc h.1 (hK _ _ _ _ _ _ h.2)
      · exact h.elim
    · exact h.elim
  | iastore =>
    simp only [am_rkb, decide_eq_true_eq] at hw
    simp only [am_s1] at h
    split at h
    · split at h
      · rename_i hc; exact am_t_iastore hw hc h.1 (hK _ _ _ _ _ _ h.2)
      · exact h.elim
    · exact h.elim
  | baload =>
    simp only [am_rkb, decide_eq_true_eq] at hw
    simp only [am_s1] at h
    split at h
    · split at h
      · rename_i hc; exact am_t_baload hw hc h.1 (hK _ _ _ _ _ _ h.2)
      · exact h.elim
    · exact h.elim
  | bastore =>
    simp only [am_rkb, decide_eq_true_eq] at hw
    simp only [am_s1] at h
    split at h
    · split at h
      · rename_i hc; exact am_t_bastore hw hc h.1 (hK _ _ _ _ _ _ h.2)
      · exact h.elim
    · exact h.elim
  | newarray t =>
    simp only [am_rkb, Bool.and_eq_true, Bool.or_eq_true, decide_eq_true_eq] at hw
    obtain ⟨⟨⟨⟨⟨h1, h2⟩, h3⟩, h4⟩, h5⟩, h6⟩ := hw
    simp only [am_s1] at h
    split at h
    · rename_i c rest
      cases hv : (decide (c = lit) && Nat.ble (k + 1) (am_rm S).cells && Nat.ble (n + aux) (am_rm S).slots) with
      | false => simp only [hv, cond_false] at h
      | true =>
        simp only [hv, cond_true] at h
        simp only [Bool.and_eq_true, Nat.ble_eq, decide_eq_true_eq] at hv
        obtain ⟨⟨rfl, g1⟩, g2⟩ := hv
        exact am_t_newarray h1 (am_at_in h2) h3 h4 h5 h6 g1 g2 (hK _ _ _ _ _ _ h)
    · exact h.elim
  | new i =>
    simp only [am_rkb, Bool.and_eq_true, decide_eq_true_eq] at hw
    obtain ⟨h1, h2⟩ := hw
    split at h2
    · rename_i C T N hc
      simp only [Bool.and_eq_true, decide_eq_true_eq] at h2
      obtain ⟨⟨⟨rfl, g2⟩, g3⟩, g4⟩ := h2
      simp only [am_s1] at h
      cases hv : (Nat.ble (k + 1) (am_rm S).cells && Nat.ble (n + (am_df aux).length) (am_rm S).slots) with
      | false => simp only [hv, cond_false] at h
      | true =>
        simp only [hv, cond_true] at h
        simp only [Bool.and_eq_true, Nat.ble_eq] at hv
        exact am_t_new h1 hc (am_at_in g2) (am_at_in g3) (am_at_in g4) hv.1 hv.2 (hK _ _ _ _ _ _ h)
    · cases h2
  | invokestatic i =>
    cases qs with
    | cons q0 l0 =>
      simp only [am_rkb, Bool.and_eq_true, decide_eq_true_eq] at hw
      obtain ⟨h1, ⟨g1, g2⟩, g3⟩ := hw
      simp only [am_s1] at h
      split at h
      · rename_i as rest htk
        obtain ⟨e1, rfl⟩ := am_tk_len htk
        obtain ⟨v, ab1, c1, c2, c3, c4, c5⟩ := am_cal_T hK h
        exact am_t_static h1 c4 (by rw [e1]; exact am_qkb_ok g1) (am_at_in g2) (am_lkb_ok g3) c1 c2 c3 c5
      · exact h.elim
    | nil =>
      cases cs with
      | nil =>
        simp only [am_rkb, Bool.and_eq_true, decide_eq_true_eq] at hw
        obtain ⟨h1, ⟨⟨⟨⟨g1, g2⟩, g3⟩, g4⟩, g5⟩, g6⟩ := hw
        simp only [am_s1] at h
        split at h
        · rename_i y x rest
          cases hv : (Nat.ble (am_ct rest) 8 && Nat.ble k (am_rm S).cells && Nat.ble n (am_rm S).slots) with
          | false => simp only [hv, cond_false] at h
          | true =>
            simp only [hv, cond_true] at h
            simp only [Bool.and_eq_true, Nat.ble_eq] at hv
            exact am_t_min h1 (am_at_in g1) (am_at_in g2) (am_at_in g3) (am_at_in g4) g5 g6 hv.1.1 hv.1.2 hv.2 (hK _ _ _ _ _ _ h)
        · exact h.elim
      | cons c0 l0 =>
        simp only [am_rkb, Bool.and_eq_true, decide_eq_true_eq] at hw
        obtain ⟨h1, ⟨⟨⟨⟨⟨⟨g1, g2⟩, g3⟩, g4⟩, g5⟩, g6⟩, g7⟩, g8⟩ := hw
        simp only [am_s1] at h
        split at h
        · rename_i c dp a1 sp a0 rest
          split at h
          · rename_i n0 f n1 g hc0 hc1
            cases hv : (Nat.ble (am_ct rest) 8 && decide (c = lit) && decide (dp = 0) && decide (sp = 0) && Nat.ble aux n0 && Nat.ble aux n1) with
            | false => simp only [hv, cond_false] at h
            | true =>
              simp only [hv, cond_true] at h
              simp only [Bool.and_eq_true, Nat.ble_eq, decide_eq_true_eq] at hv
              obtain ⟨⟨⟨⟨⟨b1, rfl⟩, rfl⟩, rfl⟩, b5⟩, b6⟩ := hv
              exact am_t_copy h1 (am_at_in g1) (am_at_in g2) (am_at_in g3) (am_at_in g4) g5 g6 b1 g7 g8 hc0 hc1 b5 b6 (hK _ _ _ _ _ _ h)
          · exact h.elim
        · exact h.elim
  | invokevirtual i =>
    simp only [am_rkb, Bool.and_eq_true, decide_eq_true_eq] at hw
    obtain ⟨h1, h2⟩ := hw
    simp only [am_s1] at h
    split at h
    · rename_i as j rest htk
      split at h
      · rename_i ci fs hc
        split at h
        · rename_i q hq
          obtain ⟨e1, rfl⟩ := am_tk_len htk
          obtain ⟨v, ab1, c1, c2, c3, c4, c5⟩ := am_cal_T hK h
          have hv := am_vall_ok h2 _ (am_cl_mem hq)
          exact am_t_virtual h1 c4 (by rw [e1]; exact hv.1) hv.2 hc c1 c2 c3 c5
        · exact h.elim
      · exact h.elim
    · exact h.elim
  | invokespecial i =>
    cases qs with
    | cons q0 l0 =>
      simp only [am_rkb, Bool.and_eq_true, decide_eq_true_eq] at hw
      obtain ⟨h1, ⟨⟨⟨g1, g2⟩, g3⟩, g4⟩, g5⟩ := hw
      simp only [am_s1] at h
      split at h
      · rename_i as j rest htk
        obtain ⟨e1, rfl⟩ := am_tk_len htk
        obtain ⟨v, ab1, c1, c2, c3, c4, c5⟩ := am_cal_T hK h
        exact am_t_special h1 c4 (by rw [e1]; exact am_qkb_ok g1) (am_at_in g2) g3 g4 (am_lkb_ok g5) c1 c2 c3 c5
      · exact h.elim
    | nil =>
      simp only [am_rkb, Bool.and_eq_true, decide_eq_true_eq] at hw
      obtain ⟨h1, ⟨⟨⟨g1, g2⟩, g3⟩, g4⟩, g5⟩ := hw
      simp only [am_s1] at h
      split at h
      · rename_i j rest
        cases hv : Nat.ble (am_ct rest) 8 with
        | false => simp only [hv, cond_false] at h
        | true =>
          simp only [hv, cond_true] at h
          rw [Nat.ble_eq] at hv
          exact am_t_objInit h1 (am_at_in g1) (am_at_in g2) (am_at_in g3) g4 g5 hv (hK _ _ _ _ _ _ h)
      · exact h.elim
  | ireturn =>
    simp only [am_rkb, decide_eq_true_eq] at hw
    simp only [am_s1] at h
    split at h
    · cases hv : (Nat.ble k (am_rm S).cells && Nat.ble n (am_rm S).slots) with
      | false => simp only [hv, cond_false] at h
      | true =>
        simp only [hv, cond_true] at h
        simp only [Bool.and_eq_true, Nat.ble_eq] at hv
        obtain ⟨rfl, rfl, ty, g1, g2⟩ := h
        exact am_t_ireturn hw g1 g2 hv.1 hv.2
    · exact h.elim
  | return_ =>
    simp only [am_rkb, decide_eq_true_eq] at hw
    simp only [am_s1] at h
    split at h
    · cases hv : (Nat.ble k (am_rm S).cells && Nat.ble n (am_rm S).slots) with
      | false => simp only [hv, cond_false] at h
      | true =>
        simp only [hv, cond_true] at h
        simp only [Bool.and_eq_true, Nat.ble_eq] at hv
        obtain ⟨rfl, rfl, g1⟩ := h
        exact am_t_return hw g1 hv.1 hv.2
    · exact h.elim
  | areturn =>
    simp only [am_rkb, decide_eq_true_eq] at hw
    simp only [am_s1] at h
    split at h
    · rename_i v
      cases hv : (Nat.ble k (am_rm S).cells && Nat.ble n (am_rm S).slots && am_fv 2 v) with
      | false => simp only [hv, cond_false] at h
      | true =>
        simp only [hv, cond_true] at h
        simp only [Bool.and_eq_true, Nat.ble_eq] at hv
        obtain ⟨rfl, rfl, nm, g1⟩ := h
        exact am_t_areturn hw g1 hv.2 hv.1.1 hv.1.2
    · exact h.elim
  | _ => exact False.elim h
theorem am_wp_T {cd : am_Cd} (hg : am_Good S cd) : ∀ (f : Nat) {pc : Nat} {L st : List Value} {ab : List am_Cl} {k n : Nat}, am_wp S cd r ab' f pc L st ab k n → am_T S r ab' pc L st ab k n
  | 0, pc, L, st, ab, k, n, h => h
  | f + 1, pc, L, st, ab, k, n, h => by
    rw [am_wp] at h
    split at h
    · rename_i q hq
      obtain ⟨h1, h2⟩ := am_Good_row hg hq
      rw [h2] at h h1
      exact am_s1_T (fun pc L st ab k n hh => am_wp_T hg f hh) h1 h
    · exact h.elim
theorem am_args : ∀ (as : List Value) (i : Nat) (b : Nat), (∀ v ∈ as, am_ok v = true) → ∀ (j : Nat) (v : Value), as[j]? = some v → (i + j, am_v b v) ∈ lv_args i (as.map (am_v b))
  | [], i, b, _, j, v, h => by simp at h
  | a :: as, i, b, ho, 0, v, h => by
    simp at h
    subst h
    simp [lv_args]
  | a :: as, i, b, ho, j + 1, v, h => by
    have hc : (am_v b a).category = 1 := by rw [am_v_cat]; exact am_ok_cat (ho a List.mem_cons_self)
    have := am_args as (i + 1) b (fun v hv => ho v (List.mem_cons_of_mem _ hv)) j v (by simpa using h)
    simp only [List.map_cons, lv_args, hc]
    refine List.mem_cons_of_mem _ ?_
    rw [show i + (j + 1) = i + 1 + j by omega]
    exact this
theorem am_sl_len (b : Nat) : ∀ (as : List Value), (∀ v ∈ as, am_ok v = true) → (lg_sl (as.map (am_v b))).length = as.length
  | [], _ => rfl
  | a :: as, ho => by
    have := am_sl_len b as (fun v hv => ho v (List.mem_cons_of_mem _ hv))
    have h1 := ho a List.mem_cons_self
    cases a <;> first | (simp [am_ok] at h1; done) | (simp_all [lg_sl, am_v, Value.category]; try omega)
/-- a contract out of the walk of its body; what isn't an argument is the mark retAddr 0 -/
theorem am_Ev_of {as : List Value} (hcw : am_cw S ∈ am_gw) (hpl : plainName (am_y S).cls = true) (ho : as.all am_ok = true) (hle : Nat.ble as.length (am_l S) = true)
    (h : am_T S r ab' 0 (as ++ List.replicate (am_l S - as.length) (.retAddr 0)) [] ab 0 0) : am_Ev S as ab r ab' := by
  refine ⟨hcw, fun l D cI cZ b => ?_⟩
  have hle : as.length ≤ am_l S := Nat.le_of_ble_eq_true hle
  have ho : ∀ v ∈ as, am_ok v = true := List.all_eq_true.mp ho
  refine Met.ofW (cc := am_c S) (maxL := am_l S) (ret := am_r S) hpl rfl ?_
  intro p e s m args below meth c s₁ B hml hv
  obtain ⟨rfl, hH, hK⟩ := hv
  have hts := atoms_spec (ws := am_cw S :: am_gw) B.pre
  have hown : s.vm.findClass (am_y S).cls = some m.cls := findClass_of_methodNamed B.named
  have hin : meth.name = (am_y S).name := (name_of_methodNamed B.named B.method).1
  have hl := lv_entry (as.map (am_v b)) (n := am_l S) (by rw [am_sl_len b as ho]; exact hle)
  rw [lg_entry_eq]
  refine h l D cI cZ b p e s m _ below meth c s.heap [] _ ⟨B.exec, B.bytes, B.returns, B.notSynchronized, hml, hown, hin, fun w hw => hts w (List.mem_cons_of_mem _ hw), hK, ?_⟩ hH va_S.rf ?_ ?_
  · rw [hH.1]; exact Nat.le_add_right _ _
  · refine ⟨hl.1, hl.2.1, fun q hq => ?_⟩
    obtain ⟨v, h1, h2, h3⟩ := am_lv_inv hq
    have h4 : as[q.1]? = some v := by
      by_cases hj : q.1 < as.length
      · rw [List.getElem?_append_left hj] at h1; exact h1
      · rw [List.getElem?_append_right (by omega)] at h1
        have := List.mem_of_getElem? h1
        rw [List.eq_of_mem_replicate this] at h2
        cases h2
    have := hl.2.2 _ (by have := am_args as 0 b ho q.1 v h4; rw [Nat.zero_add] at this; exact this)
    rw [h3]; exact this
  · simp; omega
end AMW
end
