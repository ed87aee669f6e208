section
-- ===== PART A: goes FIRST, ahead of the names: the tables' words, and 'selects' of the private methods out of them =====
/-- a private method of a class that the tables say can be made, by its rows of tables_1 -/
def lw_okq (q : MethodName × Nat) : Prop := (q.1.cls ≠ "java/lang/invoke/MethodHandle" ∧ q.1.cls ≠ "java/lang/invoke/VarHandle") ∧ Cond.instantiable q.1.cls q.2 ∈ tables_1 ∧ Cond.privateMethod q.1 ∈ tables_1 ∧ Cond.instanceMethod q.1 ∈ tables_1
theorem lw_p0 : lw_okq (⟨"ThreadBank$TextReader", "begin", "()V"⟩, 11) := ⟨⟨by decide +kernel, by decide +kernel⟩, List.mem_of_getElem? (i := 73) (by decide +kernel), List.mem_of_getElem? (i := 203) (by decide +kernel), List.mem_of_getElem? (i := 204) (by decide +kernel)⟩
theorem lw_p1 : lw_okq (⟨"ThreadBank$TextReader", "nextToken", "()Z"⟩, 11) := ⟨⟨by decide +kernel, by decide +kernel⟩, List.mem_of_getElem? (i := 73) (by decide +kernel), List.mem_of_getElem? (i := 211) (by decide +kernel), List.mem_of_getElem? (i := 212) (by decide +kernel)⟩
theorem lw_p2 : lw_okq (⟨"ThreadBank$TextReader", "endOfRun", "(III)I"⟩, 11) := ⟨⟨by decide +kernel, by decide +kernel⟩, List.mem_of_getElem? (i := 73) (by decide +kernel), List.mem_of_getElem? (i := 215) (by decide +kernel), List.mem_of_getElem? (i := 216) (by decide +kernel)⟩
theorem lw_p3 : lw_okq (⟨"ThreadBank$TextReader", "byteAt", "(I)I"⟩, 11) := ⟨⟨by decide +kernel, by decide +kernel⟩, List.mem_of_getElem? (i := 73) (by decide +kernel), List.mem_of_getElem? (i := 222) (by decide +kernel), List.mem_of_getElem? (i := 223) (by decide +kernel)⟩
theorem lw_p4 : lw_okq (⟨"ThreadBank$TextReader", "fail", "(II)Z"⟩, 11) := ⟨⟨by decide +kernel, by decide +kernel⟩, List.mem_of_getElem? (i := 73) (by decide +kernel), List.mem_of_getElem? (i := 226) (by decide +kernel), List.mem_of_getElem? (i := 227) (by decide +kernel)⟩
theorem lw_p5 : lw_okq (⟨"ThreadBank$TextReader", "isWhole", "()Z"⟩, 11) := ⟨⟨by decide +kernel, by decide +kernel⟩, List.mem_of_getElem? (i := 73) (by decide +kernel), List.mem_of_getElem? (i := 230) (by decide +kernel), List.mem_of_getElem? (i := 231) (by decide +kernel)⟩
theorem lw_p6 : lw_okq (⟨"ThreadBank$TextReader", "readLine", "()Z"⟩, 11) := ⟨⟨by decide +kernel, by decide +kernel⟩, List.mem_of_getElem? (i := 73) (by decide +kernel), List.mem_of_getElem? (i := 274) (by decide +kernel), List.mem_of_getElem? (i := 275) (by decide +kernel)⟩
theorem lw_p7 : lw_okq (⟨"ThreadBank$TextReader", "wordRead", "()I"⟩, 11) := ⟨⟨by decide +kernel, by decide +kernel⟩, List.mem_of_getElem? (i := 73) (by decide +kernel), List.mem_of_getElem? (i := 278) (by decide +kernel), List.mem_of_getElem? (i := 279) (by decide +kernel)⟩
theorem lw_p8 : lw_okq (⟨"ThreadBank$TextReader", "isWord", "(Ljava/lang/String;)Z"⟩, 11) := ⟨⟨by decide +kernel, by decide +kernel⟩, List.mem_of_getElem? (i := 73) (by decide +kernel), List.mem_of_getElem? (i := 283) (by decide +kernel), List.mem_of_getElem? (i := 284) (by decide +kernel)⟩
theorem lw_p9 : lw_okq (⟨"ThreadBank$TextReader", "readDay", "()Z"⟩, 11) := ⟨⟨by decide +kernel, by decide +kernel⟩, List.mem_of_getElem? (i := 73) (by decide +kernel), List.mem_of_getElem? (i := 340) (by decide +kernel), List.mem_of_getElem? (i := 341) (by decide +kernel)⟩
theorem lw_p10 : lw_okq (⟨"ThreadBank$TextReader", "readNumber", "()Z"⟩, 11) := ⟨⟨by decide +kernel, by decide +kernel⟩, List.mem_of_getElem? (i := 73) (by decide +kernel), List.mem_of_getElem? (i := 344) (by decide +kernel), List.mem_of_getElem? (i := 345) (by decide +kernel)⟩
theorem lw_p11 : lw_okq (⟨"ThreadBank$TextReader", "readStop", "()Z"⟩, 11) := ⟨⟨by decide +kernel, by decide +kernel⟩, List.mem_of_getElem? (i := 73) (by decide +kernel), List.mem_of_getElem? (i := 348) (by decide +kernel), List.mem_of_getElem? (i := 349) (by decide +kernel)⟩
theorem lw_p12 : lw_okq (⟨"ThreadBank$TextReader", "readTie", "()Z"⟩, 11) := ⟨⟨by decide +kernel, by decide +kernel⟩, List.mem_of_getElem? (i := 73) (by decide +kernel), List.mem_of_getElem? (i := 352) (by decide +kernel), List.mem_of_getElem? (i := 353) (by decide +kernel)⟩
theorem lw_p13 : lw_okq (⟨"ThreadBank", "sumOfNetsAboveNothing", "()I"⟩, 9) := ⟨⟨by decide +kernel, by decide +kernel⟩, List.mem_of_getElem? (i := 15) (by decide +kernel), List.mem_of_getElem? (i := 501) (by decide +kernel), List.mem_of_getElem? (i := 502) (by decide +kernel)⟩
theorem lw_p14 : lw_okq (⟨"ThreadBank$Clearing", "leastIn", "(I)I"⟩, 3) := ⟨⟨by decide +kernel, by decide +kernel⟩, List.mem_of_getElem? (i := 122) (by decide +kernel), List.mem_of_getElem? (i := 521) (by decide +kernel), List.mem_of_getElem? (i := 522) (by decide +kernel)⟩
theorem lw_p15 : lw_okq (⟨"ThreadBank$Clearing", "takeBest", "()V"⟩, 3) := ⟨⟨by decide +kernel, by decide +kernel⟩, List.mem_of_getElem? (i := 122) (by decide +kernel), List.mem_of_getElem? (i := 559) (by decide +kernel), List.mem_of_getElem? (i := 560) (by decide +kernel)⟩
def lw_privs_1 : List (MethodName × Nat) := [(⟨"ThreadBank$TextReader", "begin", "()V"⟩, 11), (⟨"ThreadBank$TextReader", "nextToken", "()Z"⟩, 11), (⟨"ThreadBank$TextReader", "endOfRun", "(III)I"⟩, 11), (⟨"ThreadBank$TextReader", "byteAt", "(I)I"⟩, 11), (⟨"ThreadBank$TextReader", "fail", "(II)Z"⟩, 11), (⟨"ThreadBank$TextReader", "isWhole", "()Z"⟩, 11), (⟨"ThreadBank$TextReader", "readLine", "()Z"⟩, 11), (⟨"ThreadBank$TextReader", "wordRead", "()I"⟩, 11), (⟨"ThreadBank$TextReader", "isWord", "(Ljava/lang/String;)Z"⟩, 11), (⟨"ThreadBank$TextReader", "readDay", "()Z"⟩, 11), (⟨"ThreadBank$TextReader", "readNumber", "()Z"⟩, 11), (⟨"ThreadBank$TextReader", "readStop", "()Z"⟩, 11), (⟨"ThreadBank$TextReader", "readTie", "()Z"⟩, 11), (⟨"ThreadBank", "sumOfNetsAboveNothing", "()I"⟩, 9), (⟨"ThreadBank$Clearing", "leastIn", "(I)I"⟩, 3), (⟨"ThreadBank$Clearing", "takeBest", "()V"⟩, 3)]
theorem lw_r1 : ∀ q ∈ lw_privs_1, lw_okq q := List.forall_mem_cons.mpr ⟨lw_p0, List.forall_mem_cons.mpr ⟨lw_p1, List.forall_mem_cons.mpr ⟨lw_p2, List.forall_mem_cons.mpr ⟨lw_p3, List.forall_mem_cons.mpr ⟨lw_p4, List.forall_mem_cons.mpr ⟨lw_p5, List.forall_mem_cons.mpr ⟨lw_p6, List.forall_mem_cons.mpr ⟨lw_p7, List.forall_mem_cons.mpr ⟨lw_p8, List.forall_mem_cons.mpr ⟨lw_p9, List.forall_mem_cons.mpr ⟨lw_p10, List.forall_mem_cons.mpr ⟨lw_p11, List.forall_mem_cons.mpr ⟨lw_p12, List.forall_mem_cons.mpr ⟨lw_p13, List.forall_mem_cons.mpr ⟨lw_p14, List.forall_mem_cons.mpr ⟨lw_p15, fun _ h => absurd h List.not_mem_nil⟩⟩⟩⟩⟩⟩⟩⟩⟩⟩⟩⟩⟩⟩⟩⟩
theorem lw_p16 : lw_okq (⟨"ThreadBank", "firstHasMate", "()Z"⟩, 9) := ⟨⟨by decide +kernel, by decide +kernel⟩, List.mem_of_getElem? (i := 15) (by decide +kernel), List.mem_of_getElem? (i := 576) (by decide +kernel), List.mem_of_getElem? (i := 577) (by decide +kernel)⟩
theorem lw_p17 : lw_okq (⟨"ThreadBank", "roomiestPlaceOn", "(I)I"⟩, 9) := ⟨⟨by decide +kernel, by decide +kernel⟩, List.mem_of_getElem? (i := 15) (by decide +kernel), List.mem_of_getElem? (i := 597) (by decide +kernel), List.mem_of_getElem? (i := 598) (by decide +kernel)⟩
theorem lw_p18 : lw_okq (⟨"ThreadBank", "imageOf", "(I)LThreadBank$Memory;"⟩, 9) := ⟨⟨by decide +kernel, by decide +kernel⟩, List.mem_of_getElem? (i := 15) (by decide +kernel), List.mem_of_getElem? (i := 719) (by decide +kernel), List.mem_of_getElem? (i := 720) (by decide +kernel)⟩
theorem lw_p19 : lw_okq (⟨"ThreadBank", "tieThreeCells", "(II)Z"⟩, 9) := ⟨⟨by decide +kernel, by decide +kernel⟩, List.mem_of_getElem? (i := 15) (by decide +kernel), List.mem_of_getElem? (i := 775) (by decide +kernel), List.mem_of_getElem? (i := 776) (by decide +kernel)⟩
theorem lw_p20 : lw_okq (⟨"ThreadBankModel", "firstDraft", "()V"⟩, 26) := ⟨⟨by decide +kernel, by decide +kernel⟩, List.mem_of_getElem? (i := 799) (by decide +kernel), List.mem_of_getElem? (i := 805) (by decide +kernel), List.mem_of_getElem? (i := 806) (by decide +kernel)⟩
theorem lw_p21 : lw_okq (⟨"ThreadBankModel", "keepDraft", "()V"⟩, 26) := ⟨⟨by decide +kernel, by decide +kernel⟩, List.mem_of_getElem? (i := 799) (by decide +kernel), List.mem_of_getElem? (i := 809) (by decide +kernel), List.mem_of_getElem? (i := 810) (by decide +kernel)⟩
theorem lw_p22 : lw_okq (⟨"ThreadBankModel", "next", "()V"⟩, 26) := ⟨⟨by decide +kernel, by decide +kernel⟩, List.mem_of_getElem? (i := 799) (by decide +kernel), List.mem_of_getElem? (i := 908) (by decide +kernel), List.mem_of_getElem? (i := 909) (by decide +kernel)⟩
theorem lw_p23 : lw_okq (⟨"ThreadBankModel", "byteAt", "(I)I"⟩, 26) := ⟨⟨by decide +kernel, by decide +kernel⟩, List.mem_of_getElem? (i := 799) (by decide +kernel), List.mem_of_getElem? (i := 912) (by decide +kernel), List.mem_of_getElem? (i := 913) (by decide +kernel)⟩
theorem lw_p24 : lw_okq (⟨"ThreadBankModel", "needs", "(ZI)V"⟩, 26) := ⟨⟨by decide +kernel, by decide +kernel⟩, List.mem_of_getElem? (i := 799) (by decide +kernel), List.mem_of_getElem? (i := 920) (by decide +kernel), List.mem_of_getElem? (i := 921) (by decide +kernel)⟩
theorem lw_p25 : lw_okq (⟨"ThreadBankModel", "readLine", "()V"⟩, 26) := ⟨⟨by decide +kernel, by decide +kernel⟩, List.mem_of_getElem? (i := 799) (by decide +kernel), List.mem_of_getElem? (i := 924) (by decide +kernel), List.mem_of_getElem? (i := 925) (by decide +kernel)⟩
theorem lw_p26 : lw_okq (⟨"ThreadBankModel", "lineNow", "()I"⟩, 26) := ⟨⟨by decide +kernel, by decide +kernel⟩, List.mem_of_getElem? (i := 799) (by decide +kernel), List.mem_of_getElem? (i := 928) (by decide +kernel), List.mem_of_getElem? (i := 929) (by decide +kernel)⟩
theorem lw_p27 : lw_okq (⟨"ThreadBankModel", "is", "(IIII)Z"⟩, 26) := ⟨⟨by decide +kernel, by decide +kernel⟩, List.mem_of_getElem? (i := 799) (by decide +kernel), List.mem_of_getElem? (i := 932) (by decide +kernel), List.mem_of_getElem? (i := 933) (by decide +kernel)⟩
theorem lw_p28 : lw_okq (⟨"ThreadBankModel", "ends", "(IIII)Z"⟩, 26) := ⟨⟨by decide +kernel, by decide +kernel⟩, List.mem_of_getElem? (i := 799) (by decide +kernel), List.mem_of_getElem? (i := 936) (by decide +kernel), List.mem_of_getElem? (i := 937) (by decide +kernel)⟩
theorem lw_p29 : lw_okq (⟨"ThreadBankModel", "readLineOf", "(I)V"⟩, 26) := ⟨⟨by decide +kernel, by decide +kernel⟩, List.mem_of_getElem? (i := 799) (by decide +kernel), List.mem_of_getElem? (i := 940) (by decide +kernel), List.mem_of_getElem? (i := 941) (by decide +kernel)⟩
theorem lw_p30 : lw_okq (⟨"ThreadBankModel", "readNumber", "(II)I"⟩, 26) := ⟨⟨by decide +kernel, by decide +kernel⟩, List.mem_of_getElem? (i := 799) (by decide +kernel), List.mem_of_getElem? (i := 944) (by decide +kernel), List.mem_of_getElem? (i := 945) (by decide +kernel)⟩
theorem lw_p31 : lw_okq (⟨"ThreadBankModel", "looked", "(II)I"⟩, 26) := ⟨⟨by decide +kernel, by decide +kernel⟩, List.mem_of_getElem? (i := 799) (by decide +kernel), List.mem_of_getElem? (i := 948) (by decide +kernel), List.mem_of_getElem? (i := 949) (by decide +kernel)⟩
def lw_privs_2 : List (MethodName × Nat) := [(⟨"ThreadBank", "firstHasMate", "()Z"⟩, 9), (⟨"ThreadBank", "roomiestPlaceOn", "(I)I"⟩, 9), (⟨"ThreadBank", "imageOf", "(I)LThreadBank$Memory;"⟩, 9), (⟨"ThreadBank", "tieThreeCells", "(II)Z"⟩, 9), (⟨"ThreadBankModel", "firstDraft", "()V"⟩, 26), (⟨"ThreadBankModel", "keepDraft", "()V"⟩, 26), (⟨"ThreadBankModel", "next", "()V"⟩, 26), (⟨"ThreadBankModel", "byteAt", "(I)I"⟩, 26), (⟨"ThreadBankModel", "needs", "(ZI)V"⟩, 26), (⟨"ThreadBankModel", "readLine", "()V"⟩, 26), (⟨"ThreadBankModel", "lineNow", "()I"⟩, 26), (⟨"ThreadBankModel", "is", "(IIII)Z"⟩, 26), (⟨"ThreadBankModel", "ends", "(IIII)Z"⟩, 26), (⟨"ThreadBankModel", "readLineOf", "(I)V"⟩, 26), (⟨"ThreadBankModel", "readNumber", "(II)I"⟩, 26), (⟨"ThreadBankModel", "looked", "(II)I"⟩, 26)]
theorem lw_r2 : ∀ q ∈ lw_privs_2, lw_okq q := List.forall_mem_cons.mpr ⟨lw_p16, List.forall_mem_cons.mpr ⟨lw_p17, List.forall_mem_cons.mpr ⟨lw_p18, List.forall_mem_cons.mpr ⟨lw_p19, List.forall_mem_cons.mpr ⟨lw_p20, List.forall_mem_cons.mpr ⟨lw_p21, List.forall_mem_cons.mpr ⟨lw_p22, List.forall_mem_cons.mpr ⟨lw_p23, List.forall_mem_cons.mpr ⟨lw_p24, List.forall_mem_cons.mpr ⟨lw_p25, List.forall_mem_cons.mpr ⟨lw_p26, List.forall_mem_cons.mpr ⟨lw_p27, List.forall_mem_cons.mpr ⟨lw_p28, List.forall_mem_cons.mpr ⟨lw_p29, List.forall_mem_cons.mpr ⟨lw_p30, List.forall_mem_cons.mpr ⟨lw_p31, fun _ h => absurd h List.not_mem_nil⟩⟩⟩⟩⟩⟩⟩⟩⟩⟩⟩⟩⟩⟩⟩⟩
theorem lw_p32 : lw_okq (⟨"ThreadBankModel", "readPlace", "()I"⟩, 26) := ⟨⟨by decide +kernel, by decide +kernel⟩, List.mem_of_getElem? (i := 799) (by decide +kernel), List.mem_of_getElem? (i := 952) (by decide +kernel), List.mem_of_getElem? (i := 953) (by decide +kernel)⟩
theorem lw_p33 : lw_okq (⟨"ThreadBankModel", "mentions", "(I)V"⟩, 26) := ⟨⟨by decide +kernel, by decide +kernel⟩, List.mem_of_getElem? (i := 799) (by decide +kernel), List.mem_of_getElem? (i := 956) (by decide +kernel), List.mem_of_getElem? (i := 957) (by decide +kernel)⟩
theorem lw_p34 : lw_okq (⟨"ThreadBankModel", "readPair", "()I"⟩, 26) := ⟨⟨by decide +kernel, by decide +kernel⟩, List.mem_of_getElem? (i := 799) (by decide +kernel), List.mem_of_getElem? (i := 960) (by decide +kernel), List.mem_of_getElem? (i := 961) (by decide +kernel)⟩
theorem lw_p35 : lw_okq (⟨"ThreadBankModel", "doFit", "()Z"⟩, 26) := ⟨⟨by decide +kernel, by decide +kernel⟩, List.mem_of_getElem? (i := 799) (by decide +kernel), List.mem_of_getElem? (i := 964) (by decide +kernel), List.mem_of_getElem? (i := 965) (by decide +kernel)⟩
theorem lw_p36 : lw_okq (⟨"ThreadBankModel", "starts", "()V"⟩, 26) := ⟨⟨by decide +kernel, by decide +kernel⟩, List.mem_of_getElem? (i := 799) (by decide +kernel), List.mem_of_getElem? (i := 982) (by decide +kernel), List.mem_of_getElem? (i := 983) (by decide +kernel)⟩
theorem lw_p37 : lw_okq (⟨"ThreadBankModel", "handRoom", "(I)I"⟩, 26) := ⟨⟨by decide +kernel, by decide +kernel⟩, List.mem_of_getElem? (i := 799) (by decide +kernel), List.mem_of_getElem? (i := 986) (by decide +kernel), List.mem_of_getElem? (i := 987) (by decide +kernel)⟩
theorem lw_p38 : lw_okq (⟨"ThreadBankModel", "room", "(I)I"⟩, 26) := ⟨⟨by decide +kernel, by decide +kernel⟩, List.mem_of_getElem? (i := 799) (by decide +kernel), List.mem_of_getElem? (i := 990) (by decide +kernel), List.mem_of_getElem? (i := 991) (by decide +kernel)⟩
theorem lw_p39 : lw_okq (⟨"ThreadBankModel", "tiedAt", "(I)I"⟩, 26) := ⟨⟨by decide +kernel, by decide +kernel⟩, List.mem_of_getElem? (i := 799) (by decide +kernel), List.mem_of_getElem? (i := 994) (by decide +kernel), List.mem_of_getElem? (i := 995) (by decide +kernel)⟩
theorem lw_p40 : lw_okq (⟨"ThreadBankModel", "of", "(II)I"⟩, 26) := ⟨⟨by decide +kernel, by decide +kernel⟩, List.mem_of_getElem? (i := 799) (by decide +kernel), List.mem_of_getElem? (i := 998) (by decide +kernel), List.mem_of_getElem? (i := 999) (by decide +kernel)⟩
theorem lw_p41 : lw_okq (⟨"ThreadBankModel", "isClerk", "(I)Z"⟩, 26) := ⟨⟨by decide +kernel, by decide +kernel⟩, List.mem_of_getElem? (i := 799) (by decide +kernel), List.mem_of_getElem? (i := 1006) (by decide +kernel), List.mem_of_getElem? (i := 1007) (by decide +kernel)⟩
theorem lw_p42 : lw_okq (⟨"ThreadBankModel", "findOwed", "(I)V"⟩, 26) := ⟨⟨by decide +kernel, by decide +kernel⟩, List.mem_of_getElem? (i := 799) (by decide +kernel), List.mem_of_getElem? (i := 1010) (by decide +kernel), List.mem_of_getElem? (i := 1011) (by decide +kernel)⟩
theorem lw_p43 : lw_okq (⟨"ThreadBankModel", "isCopy", "(I)Z"⟩, 26) := ⟨⟨by decide +kernel, by decide +kernel⟩, List.mem_of_getElem? (i := 799) (by decide +kernel), List.mem_of_getElem? (i := 1014) (by decide +kernel), List.mem_of_getElem? (i := 1015) (by decide +kernel)⟩
theorem lw_p44 : lw_okq (⟨"ThreadBankModel", "areAlike", "(II)Z"⟩, 26) := ⟨⟨by decide +kernel, by decide +kernel⟩, List.mem_of_getElem? (i := 799) (by decide +kernel), List.mem_of_getElem? (i := 1018) (by decide +kernel), List.mem_of_getElem? (i := 1019) (by decide +kernel)⟩
theorem lw_p45 : lw_okq (⟨"ThreadBankModel", "handOf", "(I)I"⟩, 26) := ⟨⟨by decide +kernel, by decide +kernel⟩, List.mem_of_getElem? (i := 799) (by decide +kernel), List.mem_of_getElem? (i := 1022) (by decide +kernel), List.mem_of_getElem? (i := 1023) (by decide +kernel)⟩
theorem lw_p46 : lw_okq (⟨"ThreadBankModel", "tiedOn", "(I)I"⟩, 26) := ⟨⟨by decide +kernel, by decide +kernel⟩, List.mem_of_getElem? (i := 799) (by decide +kernel), List.mem_of_getElem? (i := 1026) (by decide +kernel), List.mem_of_getElem? (i := 1027) (by decide +kernel)⟩
theorem lw_p47 : lw_okq (⟨"ThreadBankModel", "netOf", "(I)I"⟩, 26) := ⟨⟨by decide +kernel, by decide +kernel⟩, List.mem_of_getElem? (i := 799) (by decide +kernel), List.mem_of_getElem? (i := 1030) (by decide +kernel), List.mem_of_getElem? (i := 1031) (by decide +kernel)⟩
def lw_privs_3 : List (MethodName × Nat) := [(⟨"ThreadBankModel", "readPlace", "()I"⟩, 26), (⟨"ThreadBankModel", "mentions", "(I)V"⟩, 26), (⟨"ThreadBankModel", "readPair", "()I"⟩, 26), (⟨"ThreadBankModel", "doFit", "()Z"⟩, 26), (⟨"ThreadBankModel", "starts", "()V"⟩, 26), (⟨"ThreadBankModel", "handRoom", "(I)I"⟩, 26), (⟨"ThreadBankModel", "room", "(I)I"⟩, 26), (⟨"ThreadBankModel", "tiedAt", "(I)I"⟩, 26), (⟨"ThreadBankModel", "of", "(II)I"⟩, 26), (⟨"ThreadBankModel", "isClerk", "(I)Z"⟩, 26), (⟨"ThreadBankModel", "findOwed", "(I)V"⟩, 26), (⟨"ThreadBankModel", "isCopy", "(I)Z"⟩, 26), (⟨"ThreadBankModel", "areAlike", "(II)Z"⟩, 26), (⟨"ThreadBankModel", "handOf", "(I)I"⟩, 26), (⟨"ThreadBankModel", "tiedOn", "(I)I"⟩, 26), (⟨"ThreadBankModel", "netOf", "(I)I"⟩, 26)]
theorem lw_r3 : ∀ q ∈ lw_privs_3, lw_okq q := List.forall_mem_cons.mpr ⟨lw_p32, List.forall_mem_cons.mpr ⟨lw_p33, List.forall_mem_cons.mpr ⟨lw_p34, List.forall_mem_cons.mpr ⟨lw_p35, List.forall_mem_cons.mpr ⟨lw_p36, List.forall_mem_cons.mpr ⟨lw_p37, List.forall_mem_cons.mpr ⟨lw_p38, List.forall_mem_cons.mpr ⟨lw_p39, List.forall_mem_cons.mpr ⟨lw_p40, List.forall_mem_cons.mpr ⟨lw_p41, List.forall_mem_cons.mpr ⟨lw_p42, List.forall_mem_cons.mpr ⟨lw_p43, List.forall_mem_cons.mpr ⟨lw_p44, List.forall_mem_cons.mpr ⟨lw_p45, List.forall_mem_cons.mpr ⟨lw_p46, List.forall_mem_cons.mpr ⟨lw_p47, fun _ h => absurd h List.not_mem_nil⟩⟩⟩⟩⟩⟩⟩⟩⟩⟩⟩⟩⟩⟩⟩⟩
theorem lw_p48 : lw_okq (⟨"ThreadBankModel", "isPlace", "(I)Z"⟩, 26) := ⟨⟨by decide +kernel, by decide +kernel⟩, List.mem_of_getElem? (i := 799) (by decide +kernel), List.mem_of_getElem? (i := 1038) (by decide +kernel), List.mem_of_getElem? (i := 1039) (by decide +kernel)⟩
theorem lw_p49 : lw_okq (⟨"ThreadBankModel", "isThread", "(I)Z"⟩, 26) := ⟨⟨by decide +kernel, by decide +kernel⟩, List.mem_of_getElem? (i := 799) (by decide +kernel), List.mem_of_getElem? (i := 1049) (by decide +kernel), List.mem_of_getElem? (i := 1050) (by decide +kernel)⟩
theorem lw_p50 : lw_okq (⟨"ThreadBankModel", "isPair", "(I)Z"⟩, 26) := ⟨⟨by decide +kernel, by decide +kernel⟩, List.mem_of_getElem? (i := 799) (by decide +kernel), List.mem_of_getElem? (i := 1058) (by decide +kernel), List.mem_of_getElem? (i := 1059) (by decide +kernel)⟩
theorem lw_p51 : lw_okq (⟨"ThreadBankModel", "becomes", "(II)I"⟩, 26) := ⟨⟨by decide +kernel, by decide +kernel⟩, List.mem_of_getElem? (i := 799) (by decide +kernel), List.mem_of_getElem? (i := 1064) (by decide +kernel), List.mem_of_getElem? (i := 1065) (by decide +kernel)⟩
theorem lw_p52 : lw_okq (⟨"ThreadBankModel", "cuts", "(I)V"⟩, 26) := ⟨⟨by decide +kernel, by decide +kernel⟩, List.mem_of_getElem? (i := 799) (by decide +kernel), List.mem_of_getElem? (i := 1072) (by decide +kernel), List.mem_of_getElem? (i := 1073) (by decide +kernel)⟩
theorem lw_p53 : lw_okq (⟨"ThreadBankModel", "settles", "()V"⟩, 26) := ⟨⟨by decide +kernel, by decide +kernel⟩, List.mem_of_getElem? (i := 799) (by decide +kernel), List.mem_of_getElem? (i := 1076) (by decide +kernel), List.mem_of_getElem? (i := 1077) (by decide +kernel)⟩
theorem lw_p54 : lw_okq (⟨"ThreadBankModel", "onHand", "(I)I"⟩, 26) := ⟨⟨by decide +kernel, by decide +kernel⟩, List.mem_of_getElem? (i := 799) (by decide +kernel), List.mem_of_getElem? (i := 1088) (by decide +kernel), List.mem_of_getElem? (i := 1089) (by decide +kernel)⟩
theorem lw_p55 : lw_okq (⟨"ThreadBankModel", "owedBy", "(I)I"⟩, 26) := ⟨⟨by decide +kernel, by decide +kernel⟩, List.mem_of_getElem? (i := 799) (by decide +kernel), List.mem_of_getElem? (i := 1105) (by decide +kernel), List.mem_of_getElem? (i := 1106) (by decide +kernel)⟩
theorem lw_p56 : lw_okq (⟨"ThreadBankModel", "allOwed", "()I"⟩, 26) := ⟨⟨by decide +kernel, by decide +kernel⟩, List.mem_of_getElem? (i := 799) (by decide +kernel), List.mem_of_getElem? (i := 1114) (by decide +kernel), List.mem_of_getElem? (i := 1115) (by decide +kernel)⟩
theorem lw_p57 : lw_okq (⟨"ThreadBankModel", "startsOwed", "()V"⟩, 26) := ⟨⟨by decide +kernel, by decide +kernel⟩, List.mem_of_getElem? (i := 799) (by decide +kernel), List.mem_of_getElem? (i := 1123) (by decide +kernel), List.mem_of_getElem? (i := 1124) (by decide +kernel)⟩
theorem lw_p58 : lw_okq (⟨"ThreadBankModel", "findRing", "()Z"⟩, 26) := ⟨⟨by decide +kernel, by decide +kernel⟩, List.mem_of_getElem? (i := 799) (by decide +kernel), List.mem_of_getElem? (i := 1127) (by decide +kernel), List.mem_of_getElem? (i := 1128) (by decide +kernel)⟩
theorem lw_p59 : lw_okq (⟨"ThreadBankModel", "isRow", "(II)Z"⟩, 26) := ⟨⟨by decide +kernel, by decide +kernel⟩, List.mem_of_getElem? (i := 799) (by decide +kernel), List.mem_of_getElem? (i := 1134) (by decide +kernel), List.mem_of_getElem? (i := 1135) (by decide +kernel)⟩
theorem lw_p60 : lw_okq (⟨"ThreadBankModel", "leastIn", "(I)I"⟩, 26) := ⟨⟨by decide +kernel, by decide +kernel⟩, List.mem_of_getElem? (i := 799) (by decide +kernel), List.mem_of_getElem? (i := 1138) (by decide +kernel), List.mem_of_getElem? (i := 1139) (by decide +kernel)⟩
theorem lw_p61 : lw_okq (⟨"ThreadBankModel", "clears", "()I"⟩, 26) := ⟨⟨by decide +kernel, by decide +kernel⟩, List.mem_of_getElem? (i := 799) (by decide +kernel), List.mem_of_getElem? (i := 1147) (by decide +kernel), List.mem_of_getElem? (i := 1148) (by decide +kernel)⟩
theorem lw_p62 : lw_okq (⟨"ThreadBankModel", "netOfAll", "(I)I"⟩, 26) := ⟨⟨by decide +kernel, by decide +kernel⟩, List.mem_of_getElem? (i := 799) (by decide +kernel), List.mem_of_getElem? (i := 1159) (by decide +kernel), List.mem_of_getElem? (i := 1160) (by decide +kernel)⟩
theorem lw_p63 : lw_okq (⟨"ThreadBankModel", "atRisk", "(I)I"⟩, 26) := ⟨⟨by decide +kernel, by decide +kernel⟩, List.mem_of_getElem? (i := 799) (by decide +kernel), List.mem_of_getElem? (i := 1178) (by decide +kernel), List.mem_of_getElem? (i := 1179) (by decide +kernel)⟩
def lw_privs_4 : List (MethodName × Nat) := [(⟨"ThreadBankModel", "isPlace", "(I)Z"⟩, 26), (⟨"ThreadBankModel", "isThread", "(I)Z"⟩, 26), (⟨"ThreadBankModel", "isPair", "(I)Z"⟩, 26), (⟨"ThreadBankModel", "becomes", "(II)I"⟩, 26), (⟨"ThreadBankModel", "cuts", "(I)V"⟩, 26), (⟨"ThreadBankModel", "settles", "()V"⟩, 26), (⟨"ThreadBankModel", "onHand", "(I)I"⟩, 26), (⟨"ThreadBankModel", "owedBy", "(I)I"⟩, 26), (⟨"ThreadBankModel", "allOwed", "()I"⟩, 26), (⟨"ThreadBankModel", "startsOwed", "()V"⟩, 26), (⟨"ThreadBankModel", "findRing", "()Z"⟩, 26), (⟨"ThreadBankModel", "isRow", "(II)Z"⟩, 26), (⟨"ThreadBankModel", "leastIn", "(I)I"⟩, 26), (⟨"ThreadBankModel", "clears", "()I"⟩, 26), (⟨"ThreadBankModel", "netOfAll", "(I)I"⟩, 26), (⟨"ThreadBankModel", "atRisk", "(I)I"⟩, 26)]
theorem lw_r4 : ∀ q ∈ lw_privs_4, lw_okq q := List.forall_mem_cons.mpr ⟨lw_p48, List.forall_mem_cons.mpr ⟨lw_p49, List.forall_mem_cons.mpr ⟨lw_p50, List.forall_mem_cons.mpr ⟨lw_p51, List.forall_mem_cons.mpr ⟨lw_p52, List.forall_mem_cons.mpr ⟨lw_p53, List.forall_mem_cons.mpr ⟨lw_p54, List.forall_mem_cons.mpr ⟨lw_p55, List.forall_mem_cons.mpr ⟨lw_p56, List.forall_mem_cons.mpr ⟨lw_p57, List.forall_mem_cons.mpr ⟨lw_p58, List.forall_mem_cons.mpr ⟨lw_p59, List.forall_mem_cons.mpr ⟨lw_p60, List.forall_mem_cons.mpr ⟨lw_p61, List.forall_mem_cons.mpr ⟨lw_p62, List.forall_mem_cons.mpr ⟨lw_p63, fun _ h => absurd h List.not_mem_nil⟩⟩⟩⟩⟩⟩⟩⟩⟩⟩⟩⟩⟩⟩⟩⟩
theorem lw_p64 : lw_okq (⟨"ThreadBankModel", "isFirst", "(I)Z"⟩, 26) := ⟨⟨by decide +kernel, by decide +kernel⟩, List.mem_of_getElem? (i := 799) (by decide +kernel), List.mem_of_getElem? (i := 1182) (by decide +kernel), List.mem_of_getElem? (i := 1183) (by decide +kernel)⟩
theorem lw_p65 : lw_okq (⟨"ThreadBankModel", "handsOf", "(I)I"⟩, 26) := ⟨⟨by decide +kernel, by decide +kernel⟩, List.mem_of_getElem? (i := 799) (by decide +kernel), List.mem_of_getElem? (i := 1186) (by decide +kernel), List.mem_of_getElem? (i := 1187) (by decide +kernel)⟩
theorem lw_p66 : lw_okq (⟨"ThreadBankModel", "slipOf", "(II)I"⟩, 26) := ⟨⟨by decide +kernel, by decide +kernel⟩, List.mem_of_getElem? (i := 799) (by decide +kernel), List.mem_of_getElem? (i := 1207) (by decide +kernel), List.mem_of_getElem? (i := 1208) (by decide +kernel)⟩
theorem lw_p67 : lw_okq (⟨"ThreadBankModel", "isSo", "(I)Z"⟩, 26) := ⟨⟨by decide +kernel, by decide +kernel⟩, List.mem_of_getElem? (i := 799) (by decide +kernel), List.mem_of_getElem? (i := 1239) (by decide +kernel), List.mem_of_getElem? (i := 1240) (by decide +kernel)⟩
theorem lw_p68 : lw_okq (⟨"ThreadBankModel", "copiesTo", "(II)V"⟩, 26) := ⟨⟨by decide +kernel, by decide +kernel⟩, List.mem_of_getElem? (i := 799) (by decide +kernel), List.mem_of_getElem? (i := 1252) (by decide +kernel), List.mem_of_getElem? (i := 1253) (by decide +kernel)⟩
def lw_privs_5 : List (MethodName × Nat) := [(⟨"ThreadBankModel", "isFirst", "(I)Z"⟩, 26), (⟨"ThreadBankModel", "handsOf", "(I)I"⟩, 26), (⟨"ThreadBankModel", "slipOf", "(II)I"⟩, 26), (⟨"ThreadBankModel", "isSo", "(I)Z"⟩, 26), (⟨"ThreadBankModel", "copiesTo", "(II)V"⟩, 26)]
theorem lw_r5 : ∀ q ∈ lw_privs_5, lw_okq q := List.forall_mem_cons.mpr ⟨lw_p64, List.forall_mem_cons.mpr ⟨lw_p65, List.forall_mem_cons.mpr ⟨lw_p66, List.forall_mem_cons.mpr ⟨lw_p67, List.forall_mem_cons.mpr ⟨lw_p68, fun _ h => absurd h List.not_mem_nil⟩⟩⟩⟩⟩
def lw_privs : List (MethodName × Nat) := lw_privs_1 ++ (lw_privs_2 ++ (lw_privs_3 ++ (lw_privs_4 ++ (lw_privs_5))))
def lw_tbl : List Cond := k2_sels lw_privs ++ tables_1
theorem lw_privs_ok : ∀ q ∈ lw_privs, lw_okq q := by
  show ∀ q ∈ lw_privs_1 ++ (lw_privs_2 ++ (lw_privs_3 ++ (lw_privs_4 ++ (lw_privs_5)))), lw_okq q
  exact List.forall_mem_append.mpr ⟨lw_r1, List.forall_mem_append.mpr ⟨lw_r2, List.forall_mem_append.mpr ⟨lw_r3, List.forall_mem_append.mpr ⟨lw_r4, lw_r5⟩⟩⟩⟩
end
section
def RX0 : String := "ThreadBank$Clearing"
def TX0 : u_T := fun k => match k with
  | 0 => ("ThreadBank$Clearing", "sums", "[I", true)
  | 1 => ("ThreadBank$Clearing", "best", "I", false)
  | _ => ("ThreadBank$Clearing", "gain", "I", false)
def tyX0 : Nat → FieldType := fun k => match k with
  | 0 => .array .int
  | 1 => .int
  | _ => .int
abbrev wsX00 : List Cond := u_ws RX0 TX0 3
theorem nmX0 : ∀ a, a < 3 → ∀ b, b < 3 → a ≠ b → (TX0 a).2.1 ≠ (TX0 b).2.1 := by decide +kernel
theorem tyX0_ok : ∀ k, k < 3 → parseFieldDescriptor (TX0 k).2.2.1 = some (tyX0 k) := by decide +kernel
def RX1 : String := "ThreadBank$Memory"
def TX1 : u_T := fun k => match k with
  | 0 => ("ThreadBank$Memory", "kinds", "[I", true)
  | 1 => ("ThreadBank$Memory", "places", "[I", true)
  | 2 => ("ThreadBank$Memory", "pairs", "[I", true)
  | 3 => ("ThreadBank$Memory", "knots", "[I", true)
  | 4 => ("ThreadBank$Memory", "seenPairs", "[I", true)
  | 5 => ("ThreadBank$Memory", "seenSums", "[I", true)
  | 6 => ("ThreadBank$Memory", "clerks", "I", false)
  | 7 => ("ThreadBank$Memory", "threads", "I", false)
  | 8 => ("ThreadBank$Memory", "today", "I", false)
  | _ => ("ThreadBank$Memory", "seen", "I", false)
def tyX1 : Nat → FieldType := fun k => match k with
  | 0 => .array .int
  | 1 => .array .int
  | 2 => .array .int
  | 3 => .array .int
  | 4 => .array .int
  | 5 => .array .int
  | 6 => .int
  | 7 => .int
  | 8 => .int
  | _ => .int
abbrev wsX10 : List Cond := u_ws RX1 TX1 10
theorem nmX1 : ∀ a, a < 10 → ∀ b, b < 10 → a ≠ b → (TX1 a).2.1 ≠ (TX1 b).2.1 := by decide +kernel
theorem tyX1_ok : ∀ k, k < 10 → parseFieldDescriptor (TX1 k).2.2.1 = some (tyX1 k) := by decide +kernel
def RX2 : String := "ThreadBank$Sheets"
def TX2 : u_T := fun k => match k with
  | 0 => ("ThreadBank$Sheets", "cells", "[I", true)
  | 1 => ("ThreadBank$Sheets", "lanes", "[I", true)
  | _ => ("ThreadBank$Sheets", "sizes", "[I", true)
def tyX2 : Nat → FieldType := fun k => match k with
  | 0 => .array .int
  | 1 => .array .int
  | _ => .array .int
abbrev wsX20 : List Cond := u_ws RX2 TX2 3
theorem nmX2 : ∀ a, a < 3 → ∀ b, b < 3 → a ≠ b → (TX2 a).2.1 ≠ (TX2 b).2.1 := by decide +kernel
theorem tyX2_ok : ∀ k, k < 3 → parseFieldDescriptor (TX2 k).2.2.1 = some (tyX2 k) := by decide +kernel
def RX3 : String := "ThreadBank$TextReader"
def TX3 : u_T := fun k => match k with
  | 0 => ("ThreadBank$TextReader", "tape", "[B", true)
  | 1 => ("ThreadBank$TextReader", "told", "LThreadBank$Memory;", true)
  | 2 => ("ThreadBank$TextReader", "length", "I", false)
  | 3 => ("ThreadBank$TextReader", "lines", "I", false)
  | 4 => ("ThreadBank$TextReader", "faultKind", "I", false)
  | 5 => ("ThreadBank$TextReader", "faultPlace", "I", false)
  | 6 => ("ThreadBank$TextReader", "at", "I", false)
  | 7 => ("ThreadBank$TextReader", "token", "I", false)
  | 8 => ("ThreadBank$TextReader", "start", "I", false)
  | 9 => ("ThreadBank$TextReader", "number", "I", false)
  | _ => ("ThreadBank$TextReader", "dayTold", "Z", false)
def tyX3 : Nat → FieldType := fun k => match k with
  | 0 => .array .byte
  | 1 => .object "ThreadBank$Memory"
  | 2 => .int
  | 3 => .int
  | 4 => .int
  | 5 => .int
  | 6 => .int
  | 7 => .int
  | 8 => .int
  | 9 => .int
  | _ => .boolean
abbrev wsX30 : List Cond := u_ws RX3 TX3 11
theorem nmX3 : ∀ a, a < 11 → ∀ b, b < 11 → a ≠ b → (TX3 a).2.1 ≠ (TX3 b).2.1 := by decide +kernel
theorem tyX3_ok : ∀ k, k < 11 → parseFieldDescriptor (TX3 k).2.2.1 = some (tyX3 k) := by decide +kernel
def RX4 : String := "ThreadBank"
def TX4 : u_T := fun k => match k with
  | 0 => ("ThreadBank", "now", "LThreadBank$Memory;", true)
  | 1 => ("ThreadBank", "firstImage", "LThreadBank$Memory;", true)
  | 2 => ("ThreadBank", "secondImage", "LThreadBank$Memory;", true)
  | 3 => ("ThreadBank", "imageThere", "[Z", true)
  | 4 => ("ThreadBank", "reader", "LThreadBank$TextReader;", true)
  | 5 => ("ThreadBank", "clearing", "LThreadBank$Clearing;", true)
  | 6 => ("ThreadBank", "sheets", "LThreadBank$Sheets;", true)
  | 7 => ("ThreadBank", "originals", "[I", true)
  | _ => ("ThreadBank", "latestTorn", "I", false)
def tyX4 : Nat → FieldType := fun k => match k with
  | 0 => .object "ThreadBank$Memory"
  | 1 => .object "ThreadBank$Memory"
  | 2 => .object "ThreadBank$Memory"
  | 3 => .array .boolean
  | 4 => .object "ThreadBank$TextReader"
  | 5 => .object "ThreadBank$Clearing"
  | 6 => .object "ThreadBank$Sheets"
  | 7 => .array .int
  | _ => .int
abbrev wsX40 : List Cond := u_ws RX4 TX4 9
theorem nmX4 : ∀ a, a < 9 → ∀ b, b < 9 → a ≠ b → (TX4 a).2.1 ≠ (TX4 b).2.1 := by decide +kernel
theorem tyX4_ok : ∀ k, k < 9 → parseFieldDescriptor (TX4 k).2.2.1 = some (tyX4 k) := by decide +kernel
def RX5 : String := "ThreadBankModel"
def TX5 : u_T := fun k => match k with
  | 0 => ("ThreadBankModel", "st", "[I", true)
  | 1 => ("ThreadBankModel", "at", "[I", true)
  | 2 => ("ThreadBankModel", "isKept", "[Z", true)
  | 3 => ("ThreadBankModel", "clerks", "I", false)
  | 4 => ("ThreadBankModel", "draft", "[I", true)
  | 5 => ("ThreadBankModel", "dClerks", "I", false)
  | 6 => ("ThreadBankModel", "hasDay", "Z", false)
  | 7 => ("ThreadBankModel", "highest", "I", false)
  | 8 => ("ThreadBankModel", "tape", "[I", true)
  | 9 => ("ThreadBankModel", "taped", "I", false)
  | 10 => ("ThreadBankModel", "pos", "I", false)
  | 11 => ("ThreadBankModel", "from", "I", false)
  | 12 => ("ThreadBankModel", "sort", "I", false)
  | 13 => ("ThreadBankModel", "value", "I", false)
  | 14 => ("ThreadBankModel", "fault", "I", false)
  | 15 => ("ThreadBankModel", "wrongAt", "I", false)
  | 16 => ("ThreadBankModel", "owes", "[I", true)
  | 17 => ("ThreadBankModel", "row", "[I", true)
  | 18 => ("ThreadBankModel", "ringLess", "I", false)
  | 19 => ("ThreadBankModel", "ringSize", "I", false)
  | 20 => ("ThreadBankModel", "ringCode", "I", false)
  | 21 => ("ThreadBankModel", "groups", "[I", true)
  | 22 => ("ThreadBankModel", "lanes", "[I", true)
  | 23 => ("ThreadBankModel", "sizes", "[I", true)
  | 24 => ("ThreadBankModel", "cells", "[I", true)
  | _ => ("ThreadBankModel", "torn", "I", false)
def tyX5 : Nat → FieldType := fun k => match k with
  | 0 => .array .int
  | 1 => .array .int
  | 2 => .array .boolean
  | 3 => .int
  | 4 => .array .int
  | 5 => .int
  | 6 => .boolean
  | 7 => .int
  | 8 => .array .int
  | 9 => .int
  | 10 => .int
  | 11 => .int
  | 12 => .int
  | 13 => .int
  | 14 => .int
  | 15 => .int
  | 16 => .array .int
  | 17 => .array .int
  | 18 => .int
  | 19 => .int
  | 20 => .int
  | 21 => .array .int
  | 22 => .array .int
  | 23 => .array .int
  | 24 => .array .int
  | _ => .int
abbrev wsX50 : List Cond := u_ws RX5 TX5 26
theorem nmX5 : ∀ a, a < 26 → ∀ b, b < 26 → a ≠ b → (TX5 a).2.1 ≠ (TX5 b).2.1 := by decide +kernel
theorem tyX5_ok : ∀ k, k < 26 → parseFieldDescriptor (TX5 k).2.2.1 = some (tyX5 k) := by decide +kernel
abbrev vwCl : List vw_C := [(RX0, TX0, 3), (RX1, TX1, 10), (RX2, TX2, 3), (RX3, TX3, 11), (RX4, TX4, 9), (RX5, TX5, 26)]
end
section
/-! ===== the pure machine: the bytecode of the class, the reference and the law over a store of ints; what a method needs, as a formula ===== -/
abbrev qm_H : Type := Nat → Nat → Int32
abbrev qm_L : Type := List (Nat × Value)
abbrev qm_Q : Type := Option Value → qm_H → Prop
abbrev qm_X : Type := Nat × (Nat → Int32)
/-- an instruction: itself, the pc behind it, two numbers, a value, the targets of a switch -/
abbrev qm_I : Type := Instr × Nat × Nat × Nat × Value × List (Int32 × Nat)
/-- a cell's shape: an array (0 int, 1 byte, 2 boolean; its length) or an object (its number in vwCl; for each field the cell that it names, none: an int) -/
abbrev qm_T : Type := (Nat × Nat) ⊕ (Nat × List (Option Nat))
def qm_row (h : qm_H) (r : Nat) (f : Nat → Int32) : qm_H := fun r' => if r' = r then f else h r'
def qm_put (a : Nat) (v : Value) (l : qm_L) : qm_L := match l with
  | [] => [(a, v)]
  | (k, w) :: t => if k < a then (k, w) :: qm_put a v t else (a, v) :: (k, w) :: t
def qm_set (a : Nat) (v : Value) (l : qm_L) : qm_L := qm_put a v (l.filter (fun q => !(q.1 == a) && !(q.1 + 1 == a && q.2.category == 2) && !(v.category == 2 && q.1 == a + 1)))
/-- the same, written so that what goes on has the new list in full -/
def qm_tlK (p : Nat × Value → Bool) (l : qm_L) (k : qm_L → Prop) : Prop := match l with
  | [] => k []
  | (x, w) :: t => if p (x, w) = true then qm_tlK p t (fun t' => k ((x, w) :: t')) else qm_tlK p t k
def qm_ptK (a : Nat) (v : Value) (p : Nat × Value → Bool) (l : qm_L) (k : qm_L → Prop) : Prop := match l with
  | [] => k [(a, v)]
  | (x, w) :: t => if p (x, w) = true then (if x < a then qm_ptK a v p t (fun t' => k ((x, w) :: t')) else qm_tlK p t (fun t' => k ((a, v) :: (x, w) :: t'))) else qm_ptK a v p t k
def qm_stK (a : Nat) (v : Value) (l : qm_L) (k : qm_L → Prop) : Prop := qm_ptK a v (fun q => !(q.1 == a) && !(q.1 + 1 == a && q.2.category == 2) && !(v.category == 2 && q.1 == a + 1)) l k
theorem qm_tlK_eq (p : Nat × Value → Bool) : ∀ (l : qm_L) (k : qm_L → Prop), qm_tlK p l k = k (l.filter p)
  | [], k => rfl
  | (x, w) :: t, k => by
    unfold qm_tlK
    by_cases h : p (x, w) = true
    · rw [if_pos h, qm_tlK_eq p t, List.filter_cons, if_pos h]
    · rw [if_neg h, qm_tlK_eq p t, List.filter_cons, if_neg h]
theorem qm_ptK_eq (a : Nat) (v : Value) (p : Nat × Value → Bool) : ∀ (l : qm_L) (k : qm_L → Prop), qm_ptK a v p l k = k (qm_put a v (l.filter p))
  | [], k => rfl
  | (x, w) :: t, k => by
    unfold qm_ptK
    by_cases h : p (x, w) = true
    · rw [if_pos h, List.filter_cons, if_pos h]
      unfold qm_put
      by_cases h2 : x < a
      · rw [if_pos h2, if_pos h2, qm_ptK_eq a v p t]
      · rw [if_neg h2, if_neg h2, qm_tlK_eq]
    · rw [if_neg h, List.filter_cons, if_neg h, qm_ptK_eq a v p t]
theorem qm_stK_eq {a : Nat} {v : Value} {l : qm_L} {k : qm_L → Prop} : qm_stK a v l k = k (qm_set a v l) := qm_ptK_eq a v _ l k
def qm_ldi (lv : qm_L) (a : Nat) (k : Int32 → Prop) : Prop := match lv.lookup a with
  | some (.int x) => k x
  | _ => False
def qm_ldl (lv : qm_L) (a : Nat) (k : Int64 → Prop) : Prop := match lv.lookup a with
  | some (.long x) => k x
  | _ => False
def qm_lda (lv : qm_L) (a : Nat) (k : Nat → Prop) : Prop := match lv.lookup a with
  | some (.ref x) => k x
  | _ => False
def qm_bin (st : List Value) (k : Int32 → Int32 → List Value → Prop) : Prop := match st with
  | .int y :: .int x :: r => k x y r
  | _ => False
def qm_bil (st : List Value) (k : Int64 → Int64 → List Value → Prop) : Prop := match st with
  | .long y :: .long x :: r => k x y r
  | _ => False
def qm_one (st : List Value) (k : Int32 → List Value → Prop) : Prop := match st with
  | .int x :: r => k x r
  | _ => False
def qm_onl (st : List Value) (k : Int64 → List Value → Prop) : Prop := match st with
  | .long x :: r => k x r
  | _ => False
def qm_onr (st : List Value) (k : Nat → List Value → Prop) : Prop := match st with
  | .ref x :: r => k x r
  | _ => False
def qm_sw (x : Int32) (ts : List (Int32 × Nat)) (d : Nat) (k : Nat → Prop) : Prop := match ts with
  | [] => k d
  | (v, t) :: ts => (x = v → k t) ∧ (¬ x = v → qm_sw x ts d k)
def qm_mem (b : Nat) : qm_T := .inr (1, [some (b + 1), some (b + 2), some (b + 3), some (b + 4), some (b + 5), some (b + 6), none, none, none, none])
/-- the cells: 0 ThreadBank; 1, 8, 15, 25 Memory with its six arrays behind it; 22 imageThere; 23 TextReader, 24 its tape; 32 Clearing, 33; 34 Sheets, 35 36 37; 38 originals; 39 ThreadBankModel, 40 to 50 its arrays -/
def qm_sh : List qm_T := [
  .inr (4, [some 1, some 8, some 15, some 22, some 23, some 32, some 34, some 38, none]),
  .inr (1, [some 2, some 3, some 4, some 5, some 6, some 7, none, none, none, none]), .inl (0, 4), .inl (0, 10), .inl (0, 10), .inl (0, 10), .inl (0, 6), .inl (0, 6),
  .inr (1, [some 9, some 10, some 11, some 12, some 13, some 14, none, none, none, none]), .inl (0, 4), .inl (0, 10), .inl (0, 10), .inl (0, 10), .inl (0, 6), .inl (0, 6),
  .inr (1, [some 16, some 17, some 18, some 19, some 20, some 21, none, none, none, none]), .inl (0, 4), .inl (0, 10), .inl (0, 10), .inl (0, 10), .inl (0, 6), .inl (0, 6),
  .inl (2, 2),
  .inr (3, [some 24, some 25, none, none, none, none, none, none, none, none, none]), .inl (1, 160),
  .inr (1, [some 26, some 27, some 28, some 29, some 30, some 31, none, none, none, none]), .inl (0, 4), .inl (0, 10), .inl (0, 10), .inl (0, 10), .inl (0, 6), .inl (0, 6),
  .inr (0, [some 33, none, none]), .inl (0, 16),
  .inr (2, [some 35, some 36, some 37]), .inl (0, 160), .inl (0, 4), .inl (0, 4),
  .inl (0, 10),
  .inr (5, [some 40, some 41, some 42, none, some 43, none, none, none, some 44, none, none, none, none, none, none, none, some 45, some 46, none, none, none, some 47, some 48, some 49, some 50, none]),
  .inl (0, 147), .inl (0, 49), .inl (2, 2), .inl (0, 49), .inl (0, 160), .inl (0, 16), .inl (0, 4), .inl (0, 16), .inl (0, 4), .inl (0, 4), .inl (0, 160)]
def qm_rooms : List Int32 := [2, 2, 2, 2, 2, 2, 2, 2, 0, 2, 3, 3, 3, 0, 3, 1, 1, 1, 1, 1]
def qm_rings : List Int32 := [2, 0, 1, 0, 0, 2, 0, 2, 0, 0, 2, 0, 3, 0, 0, 2, 1, 2, 0, 0, 2, 1, 3, 0, 0, 2, 2, 3, 0, 0, 3, 0, 1, 2, 0, 3, 0, 1, 3, 0, 3, 0, 2, 1, 0, 3, 0, 2, 3, 0, 3, 0, 3, 1, 0, 3, 0, 3, 2, 0, 3, 1, 2, 3, 0, 3, 1, 3, 2, 0, 4, 0, 1, 2, 3, 4, 0, 1, 3, 2, 4, 0, 2, 1, 3, 4, 0, 2, 3, 1, 4, 0, 3, 1, 2, 4, 0, 3, 2, 1]
def qm_slen : List Nat := [5, 4, 3, 7, 3, 3]
def qm_sbyt : List (List Int32) := [[112, 108, 97, 105, 110], [108, 101, 102, 116], [111, 108, 100], [102, 111, 117, 110, 100, 101, 114], [100, 97, 121], [116, 105, 101]]
def qm_stx : List String := ["plain", "left", "old", "founder", "day", "tie"]
/-- arrays outside the cells that nobody writes: 100 ROOMS, 101 RINGS, 120 to 125 the words' bytes, 130 the script -/
def qm_ca (X : qm_X) (r : Nat) : Option (Nat × Nat × (Nat → Int32)) :=
  if r = 100 then some (0, 20, fun j => qm_rooms.getD j 0)
  else if r = 101 then some (0, 100, fun j => qm_rings.getD j 0)
  else if r = 130 then some (0, X.1, X.2)
  else if 120 ≤ r ∧ r < 126 then some (1, qm_slen.getD (r - 120) 0, fun j => (qm_sbyt.getD (r - 120) []).getD j 0)
  else none
def qm_fld (h : qm_H) (r k ci : Nat) (kk : Value → Prop) : Prop := match qm_sh[r]? with
  | some (.inr (c', rs)) => if c' = ci then (match rs[k]? with
    | some (some t) => kk (.ref t)
    | some none => kk (.int (h r k))
    | none => False) else False
  | _ => False
/-- a word's own fields: 0 value, 1 coder -/
def qm_sfl (r k : Nat) (kk : Value → Prop) : Prop := if 110 ≤ r ∧ r < 116 then (if k = 0 then kk (.ref (r + 10)) else if k = 1 then kk (.int 0) else False) else False
def qm_isz (ci k : Nat) : Bool := (ci == 3 && k == 10) || (ci == 5 && k == 6)
def qm_pfl (h : qm_H) (r k ci : Nat) (x : Int32) (kk : qm_H → Prop) : Prop := match qm_sh[r]? with
  | some (.inr (c', rs)) => if c' = ci then (match rs[k]? with
    | some none => if qm_isz ci k = true then (x = 0 ∨ x = 1) ∧ kk (qm_row h r (upd (h r) k x)) else kk (qm_row h r (upd (h r) k x))
    | _ => False) else False
  | _ => False
/-- a read of an array: t = 0 ints, t = 1 bytes or booleans -/
def qm_ald (X : qm_X) (t : Nat) (r : Nat) (i : Int32) (h : qm_H) (kk : Int32 → Prop) : Prop := match qm_sh[r]? with
  | some (.inl (t', n)) => if (t = 0 ∧ t' = 0) ∨ (t = 1 ∧ (t' = 1 ∨ t' = 2)) then (0 ≤ i.toInt ∧ i.toInt < n) ∧ kk (h r i.toInt.toNat) else False
  | some (.inr _) => False
  | none => match qm_ca X r with
    | some (t', n, f) => if t = t' then (0 ≤ i.toInt ∧ i.toInt < n) ∧ kk (f i.toInt.toNat) else False
    | none => False
def qm_ast (t : Nat) (r : Nat) (i : Int32) (h : qm_H) (x : Int32) (kk : qm_H → Prop) : Prop := match qm_sh[r]? with
  | some (.inl (t', n)) => if t = 0 ∧ t' = 0 then (0 ≤ i.toInt ∧ i.toInt < n) ∧ kk (qm_row h r (upd (h r) i.toInt.toNat x))
    else if t = 1 ∧ t' = 1 then (0 ≤ i.toInt ∧ i.toInt < n) ∧ kk (qm_row h r (upd (h r) i.toInt.toNat x.toInt8.toInt32))
    else if t = 1 ∧ t' = 2 then (0 ≤ i.toInt ∧ i.toInt < n) ∧ kk (qm_row h r (upd (h r) i.toInt.toNat (vp_nar .boolean x)))
    else False
  | _ => False
def qm_len (X : qm_X) (r : Nat) (kk : Int32 → Prop) : Prop := match qm_sh[r]? with
  | some (.inl (_, n)) => kk (nI n)
  | some (.inr _) => False
  | none => match qm_ca X r with
    | some (_, n, _) => kk (nI n)
    | none => False
def qm_cpy (h : qm_H) (st : List Value) (kk : qm_H → List Value → Prop) : Prop := match st with
  | .int n :: .int dp :: .ref d :: .int sp :: .ref s0 :: rest => (match qm_sh[s0]?, qm_sh[d]? with
    | some (.inl (t0, n0)), some (.inl (t1, n1)) => if t0 = 0 ∧ t1 = 0 ∧ (rest.map fun v => v.category).sum = 0 then (0 ≤ sp.toInt ∧ 0 ≤ dp.toInt ∧ 0 ≤ n.toInt ∧ sp.toInt + n.toInt ≤ n0 ∧ dp.toInt + n.toInt ≤ n1) ∧ kk (qm_row h d (va_cpy (h s0) (h d) sp.toInt.toNat dp.toInt.toNat n.toInt.toNat)) rest else False
    | _, _ => False)
  | _ => False
/-- the receiver of a call is of the class with that number (7: a word) -/
def qm_rcv (ci : Nat) (v : Option Value) : Bool := match v with
  | some (.ref r) => (match qm_sh[r]? with
    | some (.inr (c', _)) => c' == ci
    | some (.inl _) => false
    | none => ci == 7 && decide (110 ≤ r ∧ r < 116))
  | _ => false
def qm_retI (rt : Option FieldType) (v : Int32) (k : Prop) : Prop := match rt with
  | some .int => k
  | some .boolean => (v = 0 ∨ v = 1) ∧ k
  | some .byte => v = 0 ∧ k
  | some .char => (0 ≤ v.toInt ∧ v.toInt < 65536) ∧ k
  | _ => False
/-- what one instruction needs: 'K pc locals stack store' behind it, 'CALL method args post' of a call, Q of the method's end; cls: the class number of a method (9: static); mls: its locals -/
def qm_ins (X : qm_X) (rt : Option FieldType) (cls mls : Nat → Nat) (I : qm_I) (lv : qm_L) (st : List Value) (h : qm_H) (K : Nat → qm_L → List Value → qm_H → Prop) (CALL : Nat → List Value → qm_Q → Prop) (Q : qm_Q) : Prop :=
  match I with
  | (i, nx, a, b, v, ts) => match i with
    | .iconst _ => K nx lv (v :: st) h
    | .bipush _ => K nx lv (v :: st) h
    | .sipush _ => K nx lv (v :: st) h
    | .lconst _ => K nx lv (v :: st) h
    | .ldc _ => K nx lv (v :: st) h
    | .ldc_w _ => K nx lv (v :: st) h
    | .ldc2_w _ => K nx lv (v :: st) h
    | .getstatic _ => K nx lv (v :: st) h
    | .iload_n _ => qm_ldi lv a (fun x => K nx lv (.int x :: st) h)
    | .iload _ => qm_ldi lv a (fun x => K nx lv (.int x :: st) h)
    | .lload_n _ => qm_ldl lv a (fun x => K nx lv (.long x :: st) h)
    | .lload _ => qm_ldl lv a (fun x => K nx lv (.long x :: st) h)
    | .aload_n _ => qm_lda lv a (fun x => if x = 140 then False else K nx lv (.ref x :: st) h)
    | .istore_n _ => qm_one st (fun x r => qm_stK a (.int x) lv (fun lv' => K nx lv' r h))
    | .istore _ => qm_one st (fun x r => qm_stK a (.int x) lv (fun lv' => K nx lv' r h))
    | .lstore_n _ => qm_onl st (fun x r => qm_stK a (.long x) lv (fun lv' => K nx lv' r h))
    | .lstore _ => qm_onl st (fun x r => qm_stK a (.long x) lv (fun lv' => K nx lv' r h))
    | .iinc _ _ => qm_ldi lv a (fun x => match v with
      | .int c => qm_stK a (.int (x + c)) lv (fun lv' => K nx lv' st h)
      | _ => False)
    | .iadd => qm_bin st (fun x y r => K nx lv (.int (x + y) :: r) h)
    | .isub => qm_bin st (fun x y r => K nx lv (.int (x - y) :: r) h)
    | .imul => qm_bin st (fun x y r => K nx lv (.int (x * y) :: r) h)
    | .iand => qm_bin st (fun x y r => K nx lv (.int (x &&& y) :: r) h)
    | .ior => qm_bin st (fun x y r => K nx lv (.int (x ||| y) :: r) h)
    | .ixor => qm_bin st (fun x y r => K nx lv (.int (x ^^^ y) :: r) h)
    | .idiv => qm_bin st (fun x y r => ¬ y = 0 ∧ K nx lv (.int (x / y) :: r) h)
    | .irem => qm_bin st (fun x y r => ¬ y = 0 ∧ K nx lv (.int (x - x / y * y) :: r) h)
    | .ishl => qm_bin st (fun x y r => K nx lv (.int (x <<< (y &&& 31)) :: r) h)
    | .ishr => qm_bin st (fun x y r => K nx lv (.int (x >>> (y &&& 31)) :: r) h)
    | .iushr => qm_bin st (fun x y r => K nx lv (.int (x.toUInt32 >>> (y.toUInt32 &&& Int32.toUInt32 31)).toInt32 :: r) h)
    | .ladd => qm_bil st (fun x y r => K nx lv (.long (x + y) :: r) h)
    | .lsub => qm_bil st (fun x y r => K nx lv (.long (x - y) :: r) h)
    | .lmul => qm_bil st (fun x y r => K nx lv (.long (x * y) :: r) h)
    | .ldiv => qm_bil st (fun x y r => ¬ y = 0 ∧ K nx lv (.long (x / y) :: r) h)
    | .lrem => qm_bil st (fun x y r => ¬ y = 0 ∧ K nx lv (.long (x - x / y * y) :: r) h)
    | .lcmp => qm_bil st (fun x y r => K nx lv (.int (lg_cmp x y) :: r) h)
    | .i2l => qm_one st (fun x r => K nx lv (.long x.toInt64 :: r) h)
    | .i2b => qm_one st (fun x r => K nx lv (.int x.toInt8.toInt32 :: r) h)
    | .i2s => qm_one st (fun x r => K nx lv (.int x.toInt16.toInt32 :: r) h)
    | .i2c => qm_one st (fun x r => K nx lv (.int (x.toUInt32 % 65536).toInt32 :: r) h)
    | .dup => (match st with
      | .int x :: r => K nx lv (.int x :: .int x :: r) h
      | .ref x :: r => K nx lv (.ref x :: .ref x :: r) h
      | _ => False)
    | .dup2 => (match st with
      | .int x :: .ref y :: r => K nx lv (.int x :: .ref y :: .int x :: .ref y :: r) h
      | _ => False)
    | .pop => qm_one st (fun _ r => K nx lv r h)
    | .pop2 => qm_onl st (fun _ r => K nx lv r h)
    | .ifCond c _ => qm_one st (fun x r => match c with
      | .eq => (x = 0 → K a lv r h) ∧ (¬ x = 0 → K nx lv r h)
      | .ne => (¬ x = 0 → K a lv r h) ∧ (x = 0 → K nx lv r h)
      | .lt => (x.toInt < 0 → K a lv r h) ∧ (0 ≤ x.toInt → K nx lv r h)
      | .ge => (0 ≤ x.toInt → K a lv r h) ∧ (x.toInt < 0 → K nx lv r h)
      | .gt => (0 < x.toInt → K a lv r h) ∧ (x.toInt ≤ 0 → K nx lv r h)
      | .le => (x.toInt ≤ 0 → K a lv r h) ∧ (0 < x.toInt → K nx lv r h))
    | .if_icmp c _ => qm_bin st (fun x y r => match c with
      | .eq => (x = y → K a lv r h) ∧ (¬ x = y → K nx lv r h)
      | .ne => (¬ x = y → K a lv r h) ∧ (x = y → K nx lv r h)
      | .lt => (x.toInt < y.toInt → K a lv r h) ∧ (y.toInt ≤ x.toInt → K nx lv r h)
      | .ge => (y.toInt ≤ x.toInt → K a lv r h) ∧ (x.toInt < y.toInt → K nx lv r h)
      | .gt => (y.toInt < x.toInt → K a lv r h) ∧ (x.toInt ≤ y.toInt → K nx lv r h)
      | .le => (x.toInt ≤ y.toInt → K a lv r h) ∧ (y.toInt < x.toInt → K nx lv r h))
    | .goto _ => K a lv st h
    | .tableswitch _ _ _ _ => qm_one st (fun x r => qm_sw x ts a (fun t => K t lv r h))
    | .lookupswitch _ _ => qm_one st (fun x r => qm_sw x ts a (fun t => K t lv r h))
    | .getfield _ => qm_onr st (fun x r => if a = 7 then qm_sfl x b (fun w => K nx lv (w :: r) h) else qm_fld h x b a (fun w => K nx lv (w :: r) h))
    | .putfield _ => qm_one st (fun x r => qm_onr r (fun y r => qm_pfl h y b a x (fun h' => K nx lv r h')))
    | .iaload => qm_one st (fun i r => qm_onr r (fun y r => qm_ald X 0 y i h (fun x => K nx lv (.int x :: r) h)))
    | .baload => qm_one st (fun i r => qm_onr r (fun y r => qm_ald X 1 y i h (fun x => K nx lv (.int x :: r) h)))
    | .iastore => qm_one st (fun x r => qm_one r (fun i r => qm_onr r (fun y r => qm_ast 0 y i h x (fun h' => K nx lv r h'))))
    | .bastore => qm_one st (fun x r => qm_one r (fun i r => qm_onr r (fun y r => qm_ast 1 y i h x (fun h' => K nx lv r h'))))
    | .arraylength => qm_onr st (fun y r => qm_len X y (fun n => K nx lv (.int n :: r) h))
    | .invokevirtual _ => if b < st.length ∧ ((st.drop (b + 1)).map fun v => v.category).sum ≤ 8 ∧ ((st.take (b + 1)).map fun v => v.category).sum ≤ mls a ∧ qm_rcv (cls a) st[b]? = true then CALL a (st.take (b + 1)).reverse (fun r h' => K nx lv (r.toList ++ st.drop (b + 1)) h') else False
    | .invokestatic _ => if a = 999 then qm_cpy h st (fun h' r => K nx lv r h') else if b ≤ st.length ∧ ((st.drop b).map fun v => v.category).sum ≤ 8 ∧ ((st.take b).map fun v => v.category).sum ≤ mls a then CALL a (st.take b).reverse (fun r h' => K nx lv (r.toList ++ st.drop b) h') else False
    | .ireturn => (match st with
      | [.int x] => qm_retI rt x (Q (some (.int x)) h)
      | _ => False)
    | .lreturn => (match st with
      | [.long x] => Q (some (.long x)) h
      | _ => False)
    | .areturn => (match st with
      | [.ref x] => if x = 140 then False else Q (some (.ref x)) h
      | _ => False)
    | .return_ => (match st with
      | [] => Q none h
      | _ => False)
    | _ => False
/-! what is asked may be asked more weakly -/
theorem qm_ldi_mono {lv : qm_L} {a : Nat} {k k' : Int32 → Prop} (hk : ∀ x, k x → k' x) (h : qm_ldi lv a k) : qm_ldi lv a k' := by
  unfold qm_ldi at h ⊢
  split
  · rename_i x e; rw [e] at h; exact hk x h
  · rename_i e; split at h
    · rename_i x e2; exact absurd e2 (e x)
    · exact h
theorem qm_ldl_mono {lv : qm_L} {a : Nat} {k k' : Int64 → Prop} (hk : ∀ x, k x → k' x) (h : qm_ldl lv a k) : qm_ldl lv a k' := by
  unfold qm_ldl at h ⊢
  split
  · rename_i x e; rw [e] at h; exact hk x h
  · rename_i e; split at h
    · rename_i x e2; exact absurd e2 (e x)
    · exact h
theorem qm_lda_mono {lv : qm_L} {a : Nat} {k k' : Nat → Prop} (hk : ∀ x, k x → k' x) (h : qm_lda lv a k) : qm_lda lv a k' := by
  unfold qm_lda at h ⊢
  split
  · rename_i x e; rw [e] at h; exact hk x h
  · rename_i e; split at h
    · rename_i x e2; exact absurd e2 (e x)
    · exact h
theorem qm_bin_mono {st : List Value} {k k' : Int32 → Int32 → List Value → Prop} (hk : ∀ x y r, k x y r → k' x y r) (h : qm_bin st k) : qm_bin st k' := by
  match st, h with
  | .int y :: .int x :: r, h => exact hk x y r h
theorem qm_bil_mono {st : List Value} {k k' : Int64 → Int64 → List Value → Prop} (hk : ∀ x y r, k x y r → k' x y r) (h : qm_bil st k) : qm_bil st k' := by
  match st, h with
  | .long y :: .long x :: r, h => exact hk x y r h
theorem qm_one_mono {st : List Value} {k k' : Int32 → List Value → Prop} (hk : ∀ x r, k x r → k' x r) (h : qm_one st k) : qm_one st k' := by
  match st, h with
  | .int x :: r, h => exact hk x r h
theorem qm_onl_mono {st : List Value} {k k' : Int64 → List Value → Prop} (hk : ∀ x r, k x r → k' x r) (h : qm_onl st k) : qm_onl st k' := by
  match st, h with
  | .long x :: r, h => exact hk x r h
theorem qm_onr_mono {st : List Value} {k k' : Nat → List Value → Prop} (hk : ∀ x r, k x r → k' x r) (h : qm_onr st k) : qm_onr st k' := by
  match st, h with
  | .ref x :: r, h => exact hk x r h
theorem qm_sw_mono {x : Int32} {ts : List (Int32 × Nat)} {d : Nat} {k k' : Nat → Prop} (hk : ∀ t, k t → k' t) (h : qm_sw x ts d k) : qm_sw x ts d k' := by
  induction ts with
  | nil => exact hk d h
  | cons q ts ih => obtain ⟨v, t⟩ := q; exact ⟨fun e => hk t (h.1 e), fun e => ih (h.2 e)⟩
theorem qm_fld_mono {h0 : qm_H} {r k ci : Nat} {kk kk' : Value → Prop} (hk : ∀ w, kk w → kk' w) (h : qm_fld h0 r k ci kk) : qm_fld h0 r k ci kk' := by
  unfold qm_fld at h ⊢
  split at h
  · split at h
    · rw [if_pos ‹_›]
      split at h
      · exact hk _ h
      · exact hk _ h
      · exact h
    · exact h.elim
  · exact h.elim
theorem qm_sfl_mono {r k : Nat} {kk kk' : Value → Prop} (hk : ∀ w, kk w → kk' w) (h : qm_sfl r k kk) : qm_sfl r k kk' := by
  unfold qm_sfl at h ⊢
  split at h
  · rw [if_pos ‹_›]
    split at h
    · rw [if_pos ‹_›]; exact hk _ h
    · rw [if_neg ‹_›]
      split at h
      · rw [if_pos ‹_›]; exact hk _ h
      · exact h.elim
  · exact h.elim
theorem qm_pfl_mono {h0 : qm_H} {r k ci : Nat} {x : Int32} {kk kk' : qm_H → Prop} (hk : ∀ w, kk w → kk' w) (h : qm_pfl h0 r k ci x kk) : qm_pfl h0 r k ci x kk' := by
  unfold qm_pfl at h ⊢
  split at h
  · split at h
    · rw [if_pos ‹_›]
      split at h
      · split at h
        · rw [if_pos ‹_›]; exact ⟨h.1, hk _ h.2⟩
        · rw [if_neg ‹_›]; exact hk _ h
      · exact h.elim
    · exact h.elim
  · exact h.elim
theorem qm_ald_mono {X : qm_X} {t r : Nat} {i : Int32} {h0 : qm_H} {kk kk' : Int32 → Prop} (hk : ∀ w, kk w → kk' w) (h : qm_ald X t r i h0 kk) : qm_ald X t r i h0 kk' := by
  unfold qm_ald at h ⊢
  split at h
  · split at h
    · rw [if_pos ‹_›]; exact ⟨h.1, hk _ h.2⟩
    · exact h.elim
  · exact h.elim
  · split at h
    · split at h
      · rw [if_pos ‹_›]; exact ⟨h.1, hk _ h.2⟩
      · exact h.elim
    · exact h.elim
theorem qm_ast_mono {t r : Nat} {i : Int32} {h0 : qm_H} {x : Int32} {kk kk' : qm_H → Prop} (hk : ∀ w, kk w → kk' w) (h : qm_ast t r i h0 x kk) : qm_ast t r i h0 x kk' := by
  unfold qm_ast at h ⊢
  split at h
  · split at h
    · rw [if_pos ‹_›]; exact ⟨h.1, hk _ h.2⟩
    · rw [if_neg ‹_›]
      split at h
      · rw [if_pos ‹_›]; exact ⟨h.1, hk _ h.2⟩
      · rw [if_neg ‹_›]
        split at h
        · rw [if_pos ‹_›]; exact ⟨h.1, hk _ h.2⟩
        · exact h.elim
  · exact h.elim
theorem qm_len_mono {X : qm_X} {r : Nat} {kk kk' : Int32 → Prop} (hk : ∀ w, kk w → kk' w) (h : qm_len X r kk) : qm_len X r kk' := by
  unfold qm_len at h ⊢
  split at h
  · exact hk _ h
  · exact h.elim
  · split at h
    · exact hk _ h
    · exact h.elim
theorem qm_cpy_mono {h0 : qm_H} {st : List Value} {kk kk' : qm_H → List Value → Prop} (hk : ∀ w r, kk w r → kk' w r) (h : qm_cpy h0 st kk) : qm_cpy h0 st kk' := by
  unfold qm_cpy at h ⊢
  split at h
  · split at h
    · split at h
      · rw [if_pos ‹_›]; exact ⟨h.1, hk _ _ h.2⟩
      · exact h.elim
    · exact h.elim
  · exact h.elim
theorem qm_retI_mono {rt : Option FieldType} {v : Int32} {k k' : Prop} (hk : k → k') (h : qm_retI rt v k) : qm_retI rt v k' := by
  unfold qm_retI at h ⊢
  split at h
  · exact hk h
  · exact ⟨h.1, hk h.2⟩
  · exact ⟨h.1, hk h.2⟩
  · exact ⟨h.1, hk h.2⟩
  · exact h.elim
theorem qm_ins_mono {X : qm_X} {rt : Option FieldType} {cls mls : Nat → Nat} {I : qm_I} {lv : qm_L} {st : List Value} {h0 : qm_H} {K K' : Nat → qm_L → List Value → qm_H → Prop} {CALL CALL' : Nat → List Value → qm_Q → Prop} {Q : qm_Q}
    (hK : ∀ pc lv st h, K pc lv st h → K' pc lv st h) (hC : ∀ m as (P P' : qm_Q), (∀ r h, P r h → P' r h) → CALL m as P → CALL' m as P') (h : qm_ins X rt cls mls I lv st h0 K CALL Q) : qm_ins X rt cls mls I lv st h0 K' CALL' Q := by
  obtain ⟨i, nx, a, b, v, ts⟩ := I
  cases i <;> first
    | exact hK _ _ _ _ h
    | exact h.elim
    | exact qm_ldi_mono (fun x hx => hK _ _ _ _ hx) h
    | exact qm_ldl_mono (fun x hx => hK _ _ _ _ hx) h
    | exact qm_one_mono (fun x r hx => hK _ _ _ _ hx) h
    | exact qm_onl_mono (fun x r hx => hK _ _ _ _ hx) h
    | exact qm_bin_mono (fun x y r hx => hK _ _ _ _ hx) h
    | exact qm_one_mono (fun x r hx => qm_stK_eq.mpr (hK _ _ _ _ (qm_stK_eq.mp hx))) h
    | exact qm_onl_mono (fun x r hx => qm_stK_eq.mpr (hK _ _ _ _ (qm_stK_eq.mp hx))) h
    | exact qm_bil_mono (fun x y r hx => hK _ _ _ _ hx) h
    | exact qm_bin_mono (fun x y r hx => ⟨hx.1, hK _ _ _ _ hx.2⟩) h
    | exact qm_bil_mono (fun x y r hx => ⟨hx.1, hK _ _ _ _ hx.2⟩) h
    | exact qm_one_mono (fun x r hx => qm_sw_mono (fun t ht => hK _ _ _ _ ht) hx) h
    | exact qm_one_mono (fun x r hx => qm_onr_mono (fun y r hx => qm_pfl_mono (fun _ hx => hK _ _ _ _ hx) hx) hx) h
    | exact qm_one_mono (fun x r hx => qm_onr_mono (fun y r hx => qm_ald_mono (fun _ hx => hK _ _ _ _ hx) hx) hx) h
    | exact qm_one_mono (fun x r hx => qm_one_mono (fun x r hx => qm_onr_mono (fun y r hx => qm_ast_mono (fun _ hx => hK _ _ _ _ hx) hx) hx) hx) h
    | exact qm_onr_mono (fun x r hx => qm_len_mono (fun _ hx => hK _ _ _ _ hx) hx) h
    | skip
  case aload_n n =>
    refine qm_lda_mono (fun x hx => ?_) h
    split at hx
    · exact hx.elim
    · rw [if_neg ‹_›]; exact hK _ _ _ _ hx
  case areturn => exact h
  case dup =>
    unfold qm_ins at h ⊢
    dsimp only at h ⊢
    split at h
    · exact hK _ _ _ _ h
    · exact hK _ _ _ _ h
    · exact h.elim
  case dup2 =>
    unfold qm_ins at h ⊢
    dsimp only at h ⊢
    split at h
    · exact hK _ _ _ _ h
    · exact h.elim
  case getfield n =>
    refine qm_onr_mono (fun x r hx => ?_) h
    split at hx
    · rw [if_pos ‹_›]; exact qm_sfl_mono (fun _ hx => hK _ _ _ _ hx) hx
    · rw [if_neg ‹_›]; exact qm_fld_mono (fun _ hx => hK _ _ _ _ hx) hx
  case if_icmp c o => exact qm_bin_mono (fun x y r hx => by cases c <;> exact ⟨fun e => hK _ _ _ _ (hx.1 e), fun e => hK _ _ _ _ (hx.2 e)⟩) h
  case ifCond c o => exact qm_one_mono (fun x r hx => by cases c <;> exact ⟨fun e => hK _ _ _ _ (hx.1 e), fun e => hK _ _ _ _ (hx.2 e)⟩) h
  case iinc n m =>
    refine qm_ldi_mono (fun x hx => ?_) h
    split at hx
    · exact qm_stK_eq.mpr (hK _ _ _ _ (qm_stK_eq.mp hx))
    · exact hx.elim
  case invokestatic n =>
    unfold qm_ins at h ⊢
    dsimp only at h ⊢
    split at h
    · rw [if_pos ‹_›]; exact qm_cpy_mono (fun _ _ hx => hK _ _ _ _ hx) h
    · rw [if_neg ‹_›]
      split at h
      · rw [if_pos ‹_›]; exact hC _ _ _ _ (fun r h' hx => hK _ _ _ _ hx) h
      · exact h.elim
  case invokevirtual n =>
    unfold qm_ins at h ⊢
    dsimp only at h ⊢
    split at h
    · rw [if_pos ‹_›]; exact hC _ _ _ _ (fun r h' hx => hK _ _ _ _ hx) h
    · exact h.elim
  case ireturn => exact h
  case lreturn => exact h
  case return_ => exact h
end
section
/-! ===== the methods, as data: own class, name, code, locals, answer, room, static, class number; their instructions with the pc behind, numbers, the place of the word that links them ===== -/
abbrev qm_E : Type := Nat × qm_I × Nat × Nat
/-- java/lang/Integer.bitCount(I)I -/
def qc_0 : List qm_E := [
  (0, (.iload_n 0, 1, 0, 0, .null, []), 0, 0),
  (1, (.iload_n 0, 2, 0, 0, .null, []), 0, 0),
  (2, (.iconst 1, 3, 0, 0, .int 1, []), 0, 0),
  (3, (.iushr, 4, 0, 0, .null, []), 0, 0),
  (4, (.ldc_w 265, 7, 0, 0, .int 1431655765, []), 3, 150),
  (7, (.iand, 8, 0, 0, .null, []), 0, 0),
  (8, (.isub, 9, 0, 0, .null, []), 0, 0),
  (9, (.istore_n 0, 10, 0, 0, .null, []), 0, 0),
  (10, (.iload_n 0, 11, 0, 0, .null, []), 0, 0),
  (11, (.ldc_w 266, 14, 0, 0, .int 858993459, []), 3, 151),
  (14, (.iand, 15, 0, 0, .null, []), 0, 0),
  (15, (.iload_n 0, 16, 0, 0, .null, []), 0, 0),
  (16, (.iconst 2, 17, 0, 0, .int 2, []), 0, 0),
  (17, (.iushr, 18, 0, 0, .null, []), 0, 0),
  (18, (.ldc_w 266, 21, 0, 0, .int 858993459, []), 3, 151),
  (21, (.iand, 22, 0, 0, .null, []), 0, 0),
  (22, (.iadd, 23, 0, 0, .null, []), 0, 0),
  (23, (.istore_n 0, 24, 0, 0, .null, []), 0, 0),
  (24, (.iload_n 0, 25, 0, 0, .null, []), 0, 0),
  (25, (.iload_n 0, 26, 0, 0, .null, []), 0, 0),
  (26, (.iconst 4, 27, 0, 0, .int 4, []), 0, 0),
  (27, (.iushr, 28, 0, 0, .null, []), 0, 0),
  (28, (.iadd, 29, 0, 0, .null, []), 0, 0),
  (29, (.ldc_w 267, 32, 0, 0, .int 252645135, []), 3, 152),
  (32, (.iand, 33, 0, 0, .null, []), 0, 0),
  (33, (.istore_n 0, 34, 0, 0, .null, []), 0, 0),
  (34, (.iload_n 0, 35, 0, 0, .null, []), 0, 0),
  (35, (.iload_n 0, 36, 0, 0, .null, []), 0, 0),
  (36, (.bipush 8, 38, 0, 0, .int 8, []), 0, 0),
  (38, (.iushr, 39, 0, 0, .null, []), 0, 0),
  (39, (.iadd, 40, 0, 0, .null, []), 0, 0),
  (40, (.istore_n 0, 41, 0, 0, .null, []), 0, 0),
  (41, (.iload_n 0, 42, 0, 0, .null, []), 0, 0),
  (42, (.iload_n 0, 43, 0, 0, .null, []), 0, 0),
  (43, (.bipush 16, 45, 0, 0, .int 16, []), 0, 0),
  (45, (.iushr, 46, 0, 0, .null, []), 0, 0),
  (46, (.iadd, 47, 0, 0, .null, []), 0, 0),
  (47, (.istore_n 0, 48, 0, 0, .null, []), 0, 0),
  (48, (.iload_n 0, 49, 0, 0, .null, []), 0, 0),
  (49, (.bipush 63, 51, 0, 0, .int 63, []), 0, 0),
  (51, (.iand, 52, 0, 0, .null, []), 0, 0),
  (52, (.ireturn, 53, 0, 0, .null, []), 0, 0)]
/-- java/lang/Math.max(II)I -/
def qc_1 : List qm_E := [
  (0, (.iload_n 0, 1, 0, 0, .null, []), 0, 0),
  (1, (.iload_n 1, 2, 1, 0, .null, []), 0, 0),
  (2, (.if_icmp .lt 7, 5, 9, 0, .null, []), 0, 0),
  (5, (.iload_n 0, 6, 0, 0, .null, []), 0, 0),
  (6, (.goto 4, 9, 10, 0, .null, []), 0, 0),
  (9, (.iload_n 1, 10, 1, 0, .null, []), 0, 0),
  (10, (.ireturn, 11, 0, 0, .null, []), 0, 0)]
/-- java/lang/Math.min(II)I -/
def qc_2 : List qm_E := [
  (0, (.iload_n 0, 1, 0, 0, .null, []), 0, 0),
  (1, (.iload_n 1, 2, 1, 0, .null, []), 0, 0),
  (2, (.if_icmp .gt 7, 5, 9, 0, .null, []), 0, 0),
  (5, (.iload_n 0, 6, 0, 0, .null, []), 0, 0),
  (6, (.goto 4, 9, 10, 0, .null, []), 0, 0),
  (9, (.iload_n 1, 10, 1, 0, .null, []), 0, 0),
  (10, (.ireturn, 11, 0, 0, .null, []), 0, 0)]
/-- java/lang/String.length()I -/
def qc_3 : List qm_E := [
  (0, (.aload_n 0, 1, 0, 0, .null, []), 0, 0),
  (1, (.getfield 9, 4, 7, 0, .null, []), 6, 83),
  (4, (.arraylength, 5, 0, 0, .null, []), 0, 0),
  (5, (.aload_n 0, 6, 0, 0, .null, []), 0, 0),
  (6, (.invokevirtual 335, 9, 4, 0, .null, []), 2, 50),
  (9, (.ishr, 10, 0, 0, .null, []), 0, 0),
  (10, (.ireturn, 11, 0, 0, .null, []), 0, 0)]
/-- java/lang/String.coder()B -/
def qc_4 : List qm_E := [
  (0, (.getstatic 38, 3, 0, 0, .int 1, []), 2, 54),
  (3, (.ifCond .eq 10, 6, 13, 0, .null, []), 0, 0),
  (6, (.aload_n 0, 7, 0, 0, .null, []), 0, 0),
  (7, (.getfield 15, 10, 7, 1, .null, []), 6, 84),
  (10, (.goto 4, 13, 14, 0, .null, []), 0, 0),
  (13, (.iconst 1, 14, 0, 0, .int 1, []), 0, 0),
  (14, (.ireturn, 15, 0, 0, .null, []), 0, 0)]
/-- java/lang/String.isLatin1()Z -/
def qc_5 : List qm_E := [
  (0, (.getstatic 38, 3, 0, 0, .int 1, []), 2, 54),
  (3, (.ifCond .eq 14, 6, 17, 0, .null, []), 0, 0),
  (6, (.aload_n 0, 7, 0, 0, .null, []), 0, 0),
  (7, (.getfield 15, 10, 7, 1, .null, []), 6, 84),
  (10, (.ifCond .ne 7, 13, 17, 0, .null, []), 0, 0),
  (13, (.iconst 1, 14, 0, 0, .int 1, []), 0, 0),
  (14, (.goto 4, 17, 18, 0, .null, []), 0, 0),
  (17, (.iconst 0, 18, 0, 0, .int 0, []), 0, 0),
  (18, (.ireturn, 19, 0, 0, .null, []), 0, 0)]
/-- java/lang/String.charAt(I)C -/
def qc_6 : List qm_E := [
  (0, (.aload_n 0, 1, 0, 0, .null, []), 0, 0),
  (1, (.invokevirtual 492, 4, 5, 0, .null, []), 2, 60),
  (4, (.ifCond .eq 12, 7, 16, 0, .null, []), 0, 0),
  (7, (.aload_n 0, 8, 0, 0, .null, []), 0, 0),
  (8, (.getfield 9, 11, 7, 0, .null, []), 6, 83),
  (11, (.iload_n 1, 12, 1, 0, .null, []), 0, 0),
  (12, (.invokestatic 495, 15, 7, 2, .null, []), 2, 64),
  (15, (.ireturn, 16, 0, 0, .null, []), 0, 0),
  (16, (.aload_n 0, 17, 0, 0, .null, []), 0, 0),
  (17, (.getfield 9, 20, 7, 0, .null, []), 6, 83),
  (20, (.iload_n 1, 21, 1, 0, .null, []), 0, 0),
  (24, (.ireturn, 25, 0, 0, .null, []), 0, 0)]
/-- java/lang/StringLatin1.charAt([BI)C -/
def qc_7 : List qm_E := [
  (0, (.iload_n 1, 1, 1, 0, .null, []), 0, 0),
  (1, (.aload_n 0, 2, 0, 0, .null, []), 0, 0),
  (2, (.arraylength, 3, 0, 0, .null, []), 0, 0),
  (3, (.invokestatic 9, 6, 8, 2, .null, []), 2, 67),
  (6, (.aload_n 0, 7, 0, 0, .null, []), 0, 0),
  (7, (.iload_n 1, 8, 1, 0, .null, []), 0, 0),
  (8, (.baload, 9, 0, 0, .null, []), 0, 0),
  (9, (.sipush 255, 12, 0, 0, .int 255, []), 0, 0),
  (12, (.iand, 13, 0, 0, .null, []), 0, 0),
  (13, (.i2c, 14, 0, 0, .null, []), 0, 0),
  (14, (.ireturn, 15, 0, 0, .null, []), 0, 0)]
/-- java/lang/String.checkIndex(II)V -/
def qc_8 : List qm_E := [
  (0, (.iload_n 0, 1, 0, 0, .null, []), 0, 0),
  (1, (.iload_n 1, 2, 1, 0, .null, []), 0, 0),
  (2, (.getstatic 1053, 5, 0, 0, .ref 140, []), 2, 70),
  (5, (.invokestatic 1059, 8, 9, 3, .null, []), 2, 72),
  (8, (.pop, 9, 0, 0, .null, []), 0, 0),
  (9, (.return_, 10, 0, 0, .null, []), 0, 0)]
/-- jdk/internal/util/Preconditions.checkIndex(IILjava/util/function/BiFunction;)I -/
def qc_9 : List qm_E := [
  (0, (.iload_n 0, 1, 0, 0, .null, []), 0, 0),
  (1, (.ifCond .lt 8, 4, 9, 0, .null, []), 0, 0),
  (4, (.iload_n 0, 5, 0, 0, .null, []), 0, 0),
  (5, (.iload_n 1, 6, 1, 0, .null, []), 0, 0),
  (6, (.if_icmp .lt 10, 9, 16, 0, .null, []), 0, 0),
  (9, (.aload_n 2, 10, 2, 0, .null, []), 0, 0),
  (10, (.iload_n 0, 11, 0, 0, .null, []), 0, 0),
  (11, (.iload_n 1, 12, 1, 0, .null, []), 0, 0),
  (16, (.iload_n 0, 17, 0, 0, .null, []), 0, 0),
  (17, (.ireturn, 18, 0, 0, .null, []), 0, 0)]
/-- ThreadBank$Clearing.begin(LThreadBank$Memory;)V -/
def qc_10 : List qm_E := [
  (0, (.iconst 0, 1, 0, 0, .int 0, []), 0, 0),
  (1, (.istore_n 2, 2, 2, 0, .null, []), 0, 0),
  (2, (.iload_n 2, 3, 2, 0, .null, []), 0, 0),
  (3, (.iconst 4, 4, 0, 0, .int 4, []), 0, 0),
  (4, (.if_icmp .ge 48, 7, 52, 0, .null, []), 0, 0),
  (7, (.iconst 0, 8, 0, 0, .int 0, []), 0, 0),
  (8, (.istore_n 3, 9, 3, 0, .null, []), 0, 0),
  (9, (.iload_n 3, 10, 3, 0, .null, []), 0, 0),
  (10, (.iconst 4, 11, 0, 0, .int 4, []), 0, 0),
  (11, (.if_icmp .ge 35, 14, 46, 0, .null, []), 0, 0),
  (14, (.bipush 10, 16, 0, 0, .int 10, []), 0, 0),
  (16, (.iload_n 2, 17, 2, 0, .null, []), 0, 0),
  (17, (.imul, 18, 0, 0, .null, []), 0, 0),
  (18, (.iload_n 3, 19, 3, 0, .null, []), 0, 0),
  (19, (.iadd, 20, 0, 0, .null, []), 0, 0),
  (20, (.istore 4, 22, 4, 0, .null, []), 0, 0),
  (22, (.aload_n 0, 23, 0, 0, .null, []), 0, 0),
  (23, (.getfield 9, 26, 0, 0, .null, []), 1, 127),
  (26, (.iconst 4, 27, 0, 0, .int 4, []), 0, 0),
  (27, (.iload_n 2, 28, 2, 0, .null, []), 0, 0),
  (28, (.imul, 29, 0, 0, .null, []), 0, 0),
  (29, (.iload_n 3, 30, 3, 0, .null, []), 0, 0),
  (30, (.iadd, 31, 0, 0, .null, []), 0, 0),
  (31, (.aload_n 1, 32, 1, 0, .null, []), 0, 0),
  (32, (.iload 4, 34, 4, 0, .null, []), 0, 0),
  (34, (.bipush 9, 36, 0, 0, .int 9, []), 0, 0),
  (36, (.invokevirtual 15, 39, 53, 2, .null, []), 3, 33),
  (39, (.iastore, 40, 0, 0, .null, []), 0, 0),
  (40, (.iinc 3 1, 43, 3, 0, .int 1, []), 0, 0),
  (43, (.goto (-34), 46, 9, 0, .null, []), 0, 0),
  (46, (.iinc 2 1, 49, 2, 0, .int 1, []), 0, 0),
  (49, (.goto (-47), 52, 2, 0, .null, []), 0, 0),
  (52, (.return_, 53, 0, 0, .null, []), 0, 0)]
/-- ThreadBank$Clearing.owes(II)I -/
def qc_11 : List qm_E := [
  (0, (.iconst 4, 1, 0, 0, .int 4, []), 0, 0),
  (1, (.iload_n 1, 2, 1, 0, .null, []), 0, 0),
  (2, (.imul, 3, 0, 0, .null, []), 0, 0),
  (3, (.iload_n 2, 4, 2, 0, .null, []), 0, 0),
  (4, (.iadd, 5, 0, 0, .null, []), 0, 0),
  (5, (.istore_n 3, 6, 3, 0, .null, []), 0, 0),
  (6, (.iload_n 3, 7, 3, 0, .null, []), 0, 0),
  (7, (.ifCond .lt 21, 10, 28, 0, .null, []), 0, 0),
  (10, (.iload_n 3, 11, 3, 0, .null, []), 0, 0),
  (11, (.aload_n 0, 12, 0, 0, .null, []), 0, 0),
  (12, (.getfield 9, 15, 0, 0, .null, []), 1, 127),
  (15, (.arraylength, 16, 0, 0, .null, []), 0, 0),
  (16, (.if_icmp .ge 12, 19, 28, 0, .null, []), 0, 0),
  (19, (.aload_n 0, 20, 0, 0, .null, []), 0, 0),
  (20, (.getfield 9, 23, 0, 0, .null, []), 1, 127),
  (23, (.iload_n 3, 24, 3, 0, .null, []), 0, 0),
  (24, (.iaload, 25, 0, 0, .null, []), 0, 0),
  (25, (.goto 4, 28, 29, 0, .null, []), 0, 0),
  (28, (.iconst 0, 29, 0, 0, .int 0, []), 0, 0),
  (29, (.ireturn, 30, 0, 0, .null, []), 0, 0)]
/-- ThreadBank$Clearing.owedStill()I -/
def qc_12 : List qm_E := [
  (0, (.iconst 0, 1, 0, 0, .int 0, []), 0, 0),
  (1, (.istore_n 1, 2, 1, 0, .null, []), 0, 0),
  (2, (.iconst 0, 3, 0, 0, .int 0, []), 0, 0),
  (3, (.istore_n 2, 4, 2, 0, .null, []), 0, 0),
  (4, (.iload_n 2, 5, 2, 0, .null, []), 0, 0),
  (5, (.aload_n 0, 6, 0, 0, .null, []), 0, 0),
  (6, (.getfield 9, 9, 0, 0, .null, []), 1, 127),
  (9, (.arraylength, 10, 0, 0, .null, []), 0, 0),
  (10, (.if_icmp .ge 18, 13, 28, 0, .null, []), 0, 0),
  (13, (.iload_n 1, 14, 1, 0, .null, []), 0, 0),
  (14, (.aload_n 0, 15, 0, 0, .null, []), 0, 0),
  (15, (.getfield 9, 18, 0, 0, .null, []), 1, 127),
  (18, (.iload_n 2, 19, 2, 0, .null, []), 0, 0),
  (19, (.iaload, 20, 0, 0, .null, []), 0, 0),
  (20, (.iadd, 21, 0, 0, .null, []), 0, 0),
  (21, (.istore_n 1, 22, 1, 0, .null, []), 0, 0),
  (22, (.iinc 2 1, 25, 2, 0, .int 1, []), 0, 0),
  (25, (.goto (-21), 28, 4, 0, .null, []), 0, 0),
  (28, (.iload_n 1, 29, 1, 0, .null, []), 0, 0),
  (29, (.ireturn, 30, 0, 0, .null, []), 0, 0)]
/-- ThreadBank$Clearing.findBest()Z -/
def qc_13 : List qm_E := [
  (0, (.aload_n 0, 1, 0, 0, .null, []), 0, 0),
  (1, (.iconst 0, 2, 0, 0, .int 0, []), 0, 0),
  (2, (.putfield 21, 5, 0, 1, .null, []), 1, 128),
  (5, (.aload_n 0, 6, 0, 0, .null, []), 0, 0),
  (6, (.iconst 0, 7, 0, 0, .int 0, []), 0, 0),
  (7, (.putfield 25, 10, 0, 2, .null, []), 1, 129),
  (10, (.iconst 0, 11, 0, 0, .int 0, []), 0, 0),
  (11, (.istore_n 1, 12, 1, 0, .null, []), 0, 0),
  (12, (.iload_n 1, 13, 1, 0, .null, []), 0, 0),
  (13, (.getstatic 28, 16, 0, 0, .ref 101, []), 3, 38),
  (16, (.arraylength, 17, 0, 0, .null, []), 0, 0),
  (17, (.if_icmp .ge 38, 20, 55, 0, .null, []), 0, 0),
  (20, (.aload_n 0, 21, 0, 0, .null, []), 0, 0),
  (21, (.iload_n 1, 22, 1, 0, .null, []), 0, 0),
  (22, (.invokevirtual 31, 25, 19, 1, .null, []), 3, 40),
  (25, (.iload_n 1, 26, 1, 0, .null, []), 0, 0),
  (26, (.invokestatic 35, 29, 20, 1, .null, []), 3, 47),
  (29, (.imul, 30, 0, 0, .null, []), 0, 0),
  (30, (.istore_n 2, 31, 2, 0, .null, []), 0, 0),
  (31, (.iload_n 2, 32, 2, 0, .null, []), 0, 0),
  (32, (.aload_n 0, 33, 0, 0, .null, []), 0, 0),
  (33, (.getfield 25, 36, 0, 2, .null, []), 1, 129),
  (36, (.if_icmp .le 13, 39, 49, 0, .null, []), 0, 0),
  (39, (.aload_n 0, 40, 0, 0, .null, []), 0, 0),
  (40, (.iload_n 2, 41, 2, 0, .null, []), 0, 0),
  (41, (.putfield 25, 44, 0, 2, .null, []), 1, 129),
  (44, (.aload_n 0, 45, 0, 0, .null, []), 0, 0),
  (45, (.iload_n 1, 46, 1, 0, .null, []), 0, 0),
  (46, (.putfield 21, 49, 0, 1, .null, []), 1, 128),
  (49, (.iinc 1 5, 52, 1, 0, .int 5, []), 0, 0),
  (52, (.goto (-40), 55, 12, 0, .null, []), 0, 0),
  (55, (.aload_n 0, 56, 0, 0, .null, []), 0, 0),
  (56, (.getfield 25, 59, 0, 2, .null, []), 1, 129),
  (59, (.ifCond .le 7, 62, 66, 0, .null, []), 0, 0),
  (62, (.iconst 1, 63, 0, 0, .int 1, []), 0, 0),
  (63, (.goto 4, 66, 67, 0, .null, []), 0, 0),
  (66, (.iconst 0, 67, 0, 0, .int 0, []), 0, 0),
  (67, (.ireturn, 68, 0, 0, .null, []), 0, 0)]
/-- ThreadBank$Clearing.gainOfBest()I -/
def qc_14 : List qm_E := [
  (0, (.aload_n 0, 1, 0, 0, .null, []), 0, 0),
  (1, (.getfield 25, 4, 0, 2, .null, []), 1, 129),
  (4, (.ireturn, 5, 0, 0, .null, []), 0, 0)]
/-- ThreadBank$Clearing.sizeOfBest()I -/
def qc_15 : List qm_E := [
  (0, (.aload_n 0, 1, 0, 0, .null, []), 0, 0),
  (1, (.getfield 21, 4, 0, 1, .null, []), 1, 128),
  (4, (.invokestatic 35, 7, 20, 1, .null, []), 3, 47),
  (7, (.ireturn, 8, 0, 0, .null, []), 0, 0)]
/-- ThreadBank$Clearing.clerkOfBest(I)I -/
def qc_16 : List qm_E := [
  (0, (.iload_n 1, 1, 1, 0, .null, []), 0, 0),
  (1, (.ifCond .lt 25, 4, 26, 0, .null, []), 0, 0),
  (4, (.iload_n 1, 5, 1, 0, .null, []), 0, 0),
  (5, (.aload_n 0, 6, 0, 0, .null, []), 0, 0),
  (6, (.getfield 21, 9, 0, 1, .null, []), 1, 128),
  (9, (.invokestatic 35, 12, 20, 1, .null, []), 3, 47),
  (12, (.if_icmp .ge 14, 15, 26, 0, .null, []), 0, 0),
  (15, (.aload_n 0, 16, 0, 0, .null, []), 0, 0),
  (16, (.getfield 21, 19, 0, 1, .null, []), 1, 128),
  (19, (.iload_n 1, 20, 1, 0, .null, []), 0, 0),
  (20, (.invokestatic 38, 23, 21, 2, .null, []), 3, 44),
  (23, (.goto 5, 26, 28, 0, .null, []), 0, 0),
  (26, (.bipush (-4), 28, 0, 0, .int (-4 : Int32), []), 0, 0),
  (28, (.ireturn, 29, 0, 0, .null, []), 0, 0)]
/-- ThreadBank$Clearing.takeAll()I -/
def qc_17 : List qm_E := [
  (0, (.iconst 0, 1, 0, 0, .int 0, []), 0, 0),
  (1, (.istore_n 1, 2, 1, 0, .null, []), 0, 0),
  (2, (.iload_n 1, 3, 1, 0, .null, []), 0, 0),
  (3, (.bipush 12, 5, 0, 0, .int 12, []), 0, 0),
  (5, (.if_icmp .ge 20, 8, 25, 0, .null, []), 0, 0),
  (8, (.aload_n 0, 9, 0, 0, .null, []), 0, 0),
  (9, (.invokevirtual 41, 12, 13, 0, .null, []), 3, 77),
  (12, (.ifCond .eq 13, 15, 25, 0, .null, []), 0, 0),
  (15, (.aload_n 0, 16, 0, 0, .null, []), 0, 0),
  (16, (.invokevirtual 45, 19, 18, 0, .null, []), 3, 78),
  (19, (.iinc 1 1, 22, 1, 0, .int 1, []), 0, 0),
  (22, (.goto (-20), 25, 2, 0, .null, []), 0, 0),
  (25, (.iload_n 1, 26, 1, 0, .null, []), 0, 0),
  (26, (.ireturn, 27, 0, 0, .null, []), 0, 0)]
/-- ThreadBank$Clearing.takeBest()V -/
def qc_18 : List qm_E := [
  (0, (.aload_n 0, 1, 0, 0, .null, []), 0, 0),
  (1, (.aload_n 0, 2, 0, 0, .null, []), 0, 0),
  (2, (.getfield 21, 5, 0, 1, .null, []), 1, 128),
  (5, (.invokevirtual 31, 8, 19, 1, .null, []), 3, 40),
  (8, (.istore_n 1, 9, 1, 0, .null, []), 0, 0),
  (9, (.iconst 0, 10, 0, 0, .int 0, []), 0, 0),
  (10, (.istore_n 2, 11, 2, 0, .null, []), 0, 0),
  (11, (.iload_n 2, 12, 2, 0, .null, []), 0, 0),
  (12, (.aload_n 0, 13, 0, 0, .null, []), 0, 0),
  (13, (.getfield 21, 16, 0, 1, .null, []), 1, 128),
  (16, (.invokestatic 35, 19, 20, 1, .null, []), 3, 47),
  (19, (.if_icmp .ge 54, 22, 73, 0, .null, []), 0, 0),
  (22, (.iconst 4, 23, 0, 0, .int 4, []), 0, 0),
  (23, (.aload_n 0, 24, 0, 0, .null, []), 0, 0),
  (24, (.getfield 21, 27, 0, 1, .null, []), 1, 128),
  (27, (.iload_n 2, 28, 2, 0, .null, []), 0, 0),
  (28, (.invokestatic 38, 31, 21, 2, .null, []), 3, 44),
  (31, (.imul, 32, 0, 0, .null, []), 0, 0),
  (32, (.aload_n 0, 33, 0, 0, .null, []), 0, 0),
  (33, (.getfield 21, 36, 0, 1, .null, []), 1, 128),
  (36, (.iload_n 2, 37, 2, 0, .null, []), 0, 0),
  (37, (.iconst 1, 38, 0, 0, .int 1, []), 0, 0),
  (38, (.iadd, 39, 0, 0, .null, []), 0, 0),
  (39, (.invokestatic 38, 42, 21, 2, .null, []), 3, 44),
  (42, (.iadd, 43, 0, 0, .null, []), 0, 0),
  (43, (.istore_n 3, 44, 3, 0, .null, []), 0, 0),
  (44, (.iload_n 3, 45, 3, 0, .null, []), 0, 0),
  (45, (.ifCond .lt 22, 48, 67, 0, .null, []), 0, 0),
  (48, (.iload_n 3, 49, 3, 0, .null, []), 0, 0),
  (49, (.aload_n 0, 50, 0, 0, .null, []), 0, 0),
  (50, (.getfield 9, 53, 0, 0, .null, []), 1, 127),
  (53, (.arraylength, 54, 0, 0, .null, []), 0, 0),
  (54, (.if_icmp .ge 13, 57, 67, 0, .null, []), 0, 0),
  (57, (.aload_n 0, 58, 0, 0, .null, []), 0, 0),
  (58, (.getfield 9, 61, 0, 0, .null, []), 1, 127),
  (61, (.iload_n 3, 62, 3, 0, .null, []), 0, 0),
  (62, (.dup2, 63, 0, 0, .null, []), 0, 0),
  (63, (.iaload, 64, 0, 0, .null, []), 0, 0),
  (64, (.iload_n 1, 65, 1, 0, .null, []), 0, 0),
  (65, (.isub, 66, 0, 0, .null, []), 0, 0),
  (66, (.iastore, 67, 0, 0, .null, []), 0, 0),
  (67, (.iinc 2 1, 70, 2, 0, .int 1, []), 0, 0),
  (70, (.goto (-59), 73, 11, 0, .null, []), 0, 0),
  (73, (.return_, 74, 0, 0, .null, []), 0, 0)]
/-- ThreadBank$Clearing.leastIn(I)I -/
def qc_19 : List qm_E := [
  (0, (.aload_n 0, 1, 0, 0, .null, []), 0, 0),
  (1, (.iload_n 1, 2, 1, 0, .null, []), 0, 0),
  (2, (.iconst 0, 3, 0, 0, .int 0, []), 0, 0),
  (3, (.invokestatic 38, 6, 21, 2, .null, []), 3, 44),
  (6, (.iload_n 1, 7, 1, 0, .null, []), 0, 0),
  (7, (.iconst 1, 8, 0, 0, .int 1, []), 0, 0),
  (8, (.invokestatic 38, 11, 21, 2, .null, []), 3, 44),
  (11, (.invokevirtual 48, 14, 11, 2, .null, []), 3, 50),
  (14, (.istore_n 2, 15, 2, 0, .null, []), 0, 0),
  (15, (.iconst 1, 16, 0, 0, .int 1, []), 0, 0),
  (16, (.istore_n 3, 17, 3, 0, .null, []), 0, 0),
  (17, (.iload_n 3, 18, 3, 0, .null, []), 0, 0),
  (18, (.iload_n 1, 19, 1, 0, .null, []), 0, 0),
  (19, (.invokestatic 35, 22, 20, 1, .null, []), 3, 47),
  (22, (.if_icmp .ge 30, 25, 52, 0, .null, []), 0, 0),
  (25, (.iload_n 2, 26, 2, 0, .null, []), 0, 0),
  (26, (.aload_n 0, 27, 0, 0, .null, []), 0, 0),
  (27, (.iload_n 1, 28, 1, 0, .null, []), 0, 0),
  (28, (.iload_n 3, 29, 3, 0, .null, []), 0, 0),
  (29, (.invokestatic 38, 32, 21, 2, .null, []), 3, 44),
  (32, (.iload_n 1, 33, 1, 0, .null, []), 0, 0),
  (33, (.iload_n 3, 34, 3, 0, .null, []), 0, 0),
  (34, (.iconst 1, 35, 0, 0, .int 1, []), 0, 0),
  (35, (.iadd, 36, 0, 0, .null, []), 0, 0),
  (36, (.invokestatic 38, 39, 21, 2, .null, []), 3, 44),
  (39, (.invokevirtual 48, 42, 11, 2, .null, []), 3, 50),
  (42, (.invokestatic 51, 45, 2, 2, .null, []), 3, 54),
  (45, (.istore_n 2, 46, 2, 0, .null, []), 0, 0),
  (46, (.iinc 3 1, 49, 3, 0, .int 1, []), 0, 0),
  (49, (.goto (-32), 52, 17, 0, .null, []), 0, 0),
  (52, (.iload_n 2, 53, 2, 0, .null, []), 0, 0),
  (53, (.ireturn, 54, 0, 0, .null, []), 0, 0)]
/-- ThreadBank$Clearing.sizeOf(I)I -/
def qc_20 : List qm_E := [
  (0, (.iload_n 0, 1, 0, 0, .null, []), 0, 0),
  (1, (.ifCond .lt 19, 4, 20, 0, .null, []), 0, 0),
  (4, (.iload_n 0, 5, 0, 0, .null, []), 0, 0),
  (5, (.getstatic 28, 8, 0, 0, .ref 101, []), 3, 38),
  (8, (.arraylength, 9, 0, 0, .null, []), 0, 0),
  (9, (.if_icmp .ge 11, 12, 20, 0, .null, []), 0, 0),
  (12, (.getstatic 28, 15, 0, 0, .ref 101, []), 3, 38),
  (15, (.iload_n 0, 16, 0, 0, .null, []), 0, 0),
  (16, (.iaload, 17, 0, 0, .null, []), 0, 0),
  (17, (.goto 4, 20, 21, 0, .null, []), 0, 0),
  (20, (.iconst 0, 21, 0, 0, .int 0, []), 0, 0),
  (21, (.ireturn, 22, 0, 0, .null, []), 0, 0)]
/-- ThreadBank$Clearing.clerkIn(II)I -/
def qc_21 : List qm_E := [
  (0, (.iload_n 0, 1, 0, 0, .null, []), 0, 0),
  (1, (.iconst 1, 2, 0, 0, .int 1, []), 0, 0),
  (2, (.iadd, 3, 0, 0, .null, []), 0, 0),
  (3, (.iload_n 1, 4, 1, 0, .null, []), 0, 0),
  (4, (.iload_n 0, 5, 0, 0, .null, []), 0, 0),
  (5, (.invokestatic 35, 8, 20, 1, .null, []), 3, 47),
  (8, (.if_icmp .ge 7, 11, 15, 0, .null, []), 0, 0),
  (11, (.iload_n 1, 12, 1, 0, .null, []), 0, 0),
  (12, (.goto 4, 15, 16, 0, .null, []), 0, 0),
  (15, (.iconst 0, 16, 0, 0, .int 0, []), 0, 0),
  (16, (.iadd, 17, 0, 0, .null, []), 0, 0),
  (17, (.istore_n 2, 18, 2, 0, .null, []), 0, 0),
  (18, (.iload_n 2, 19, 2, 0, .null, []), 0, 0),
  (19, (.ifCond .lt 19, 22, 38, 0, .null, []), 0, 0),
  (22, (.iload_n 2, 23, 2, 0, .null, []), 0, 0),
  (23, (.getstatic 28, 26, 0, 0, .ref 101, []), 3, 38),
  (26, (.arraylength, 27, 0, 0, .null, []), 0, 0),
  (27, (.if_icmp .ge 11, 30, 38, 0, .null, []), 0, 0),
  (30, (.getstatic 28, 33, 0, 0, .ref 101, []), 3, 38),
  (33, (.iload_n 2, 34, 2, 0, .null, []), 0, 0),
  (34, (.iaload, 35, 0, 0, .null, []), 0, 0),
  (35, (.goto 4, 38, 39, 0, .null, []), 0, 0),
  (38, (.iconst 0, 39, 0, 0, .int 0, []), 0, 0),
  (39, (.ireturn, 40, 0, 0, .null, []), 0, 0)]
/-- ThreadBank$Memory.wipe()V -/
def qc_22 : List qm_E := [
  (0, (.aload_n 0, 1, 0, 0, .null, []), 0, 0),
  (1, (.iconst 0, 2, 0, 0, .int 0, []), 0, 0),
  (2, (.putfield 30, 5, 1, 6, .null, []), 1, 40),
  (5, (.aload_n 0, 6, 0, 0, .null, []), 0, 0),
  (6, (.iconst 0, 7, 0, 0, .int 0, []), 0, 0),
  (7, (.putfield 34, 10, 1, 7, .null, []), 1, 42),
  (10, (.aload_n 0, 11, 0, 0, .null, []), 0, 0),
  (11, (.iconst 0, 12, 0, 0, .int 0, []), 0, 0),
  (12, (.putfield 37, 15, 1, 8, .null, []), 1, 45),
  (15, (.aload_n 0, 16, 0, 0, .null, []), 0, 0),
  (16, (.iconst 0, 17, 0, 0, .int 0, []), 0, 0),
  (17, (.putfield 40, 20, 1, 9, .null, []), 1, 48),
  (20, (.return_, 21, 0, 0, .null, []), 0, 0)]
/-- ThreadBank$Memory.become(LThreadBank$Memory;)V -/
def qc_23 : List qm_E := [
  (0, (.aload_n 0, 1, 0, 0, .null, []), 0, 0),
  (1, (.aload_n 1, 2, 1, 0, .null, []), 0, 0),
  (2, (.getfield 30, 5, 1, 6, .null, []), 1, 40),
  (5, (.putfield 30, 8, 1, 6, .null, []), 1, 40),
  (8, (.aload_n 0, 9, 0, 0, .null, []), 0, 0),
  (9, (.aload_n 1, 10, 1, 0, .null, []), 0, 0),
  (10, (.getfield 34, 13, 1, 7, .null, []), 1, 42),
  (13, (.putfield 34, 16, 1, 7, .null, []), 1, 42),
  (16, (.aload_n 0, 17, 0, 0, .null, []), 0, 0),
  (17, (.aload_n 1, 18, 1, 0, .null, []), 0, 0),
  (18, (.getfield 37, 21, 1, 8, .null, []), 1, 45),
  (21, (.putfield 37, 24, 1, 8, .null, []), 1, 45),
  (24, (.aload_n 0, 25, 0, 0, .null, []), 0, 0),
  (25, (.aload_n 1, 26, 1, 0, .null, []), 0, 0),
  (26, (.getfield 40, 29, 1, 9, .null, []), 1, 48),
  (29, (.putfield 40, 32, 1, 9, .null, []), 1, 48),
  (32, (.aload_n 1, 33, 1, 0, .null, []), 0, 0),
  (33, (.getfield 9, 36, 1, 0, .null, []), 1, 28),
  (36, (.iconst 0, 37, 0, 0, .int 0, []), 0, 0),
  (37, (.aload_n 0, 38, 0, 0, .null, []), 0, 0),
  (38, (.getfield 9, 41, 1, 0, .null, []), 1, 28),
  (41, (.iconst 0, 42, 0, 0, .int 0, []), 0, 0),
  (42, (.iconst 4, 43, 0, 0, .int 4, []), 0, 0),
  (43, (.invokestatic 43, 46, 999, 0, .null, []), 2, 132),
  (46, (.aload_n 1, 47, 1, 0, .null, []), 0, 0),
  (47, (.getfield 15, 50, 1, 1, .null, []), 1, 30),
  (50, (.iconst 0, 51, 0, 0, .int 0, []), 0, 0),
  (51, (.aload_n 0, 52, 0, 0, .null, []), 0, 0),
  (52, (.getfield 15, 55, 1, 1, .null, []), 1, 30),
  (55, (.iconst 0, 56, 0, 0, .int 0, []), 0, 0),
  (56, (.bipush 10, 58, 0, 0, .int 10, []), 0, 0),
  (58, (.invokestatic 43, 61, 999, 0, .null, []), 2, 132),
  (61, (.aload_n 1, 62, 1, 0, .null, []), 0, 0),
  (62, (.getfield 18, 65, 1, 2, .null, []), 1, 33),
  (65, (.iconst 0, 66, 0, 0, .int 0, []), 0, 0),
  (66, (.aload_n 0, 67, 0, 0, .null, []), 0, 0),
  (67, (.getfield 18, 70, 1, 2, .null, []), 1, 33),
  (70, (.iconst 0, 71, 0, 0, .int 0, []), 0, 0),
  (71, (.bipush 10, 73, 0, 0, .int 10, []), 0, 0),
  (73, (.invokestatic 43, 76, 999, 0, .null, []), 2, 132),
  (76, (.aload_n 1, 77, 1, 0, .null, []), 0, 0),
  (77, (.getfield 21, 80, 1, 3, .null, []), 1, 36),
  (80, (.iconst 0, 81, 0, 0, .int 0, []), 0, 0),
  (81, (.aload_n 0, 82, 0, 0, .null, []), 0, 0),
  (82, (.getfield 21, 85, 1, 3, .null, []), 1, 36),
  (85, (.iconst 0, 86, 0, 0, .int 0, []), 0, 0),
  (86, (.bipush 10, 88, 0, 0, .int 10, []), 0, 0),
  (88, (.invokestatic 43, 91, 999, 0, .null, []), 2, 132),
  (91, (.aload_n 1, 92, 1, 0, .null, []), 0, 0),
  (92, (.getfield 24, 95, 1, 4, .null, []), 1, 38),
  (95, (.iconst 0, 96, 0, 0, .int 0, []), 0, 0),
  (96, (.aload_n 0, 97, 0, 0, .null, []), 0, 0),
  (97, (.getfield 24, 100, 1, 4, .null, []), 1, 38),
  (100, (.iconst 0, 101, 0, 0, .int 0, []), 0, 0),
  (101, (.bipush 6, 103, 0, 0, .int 6, []), 0, 0),
  (103, (.invokestatic 43, 106, 999, 0, .null, []), 2, 132),
  (106, (.aload_n 1, 107, 1, 0, .null, []), 0, 0),
  (107, (.getfield 27, 110, 1, 5, .null, []), 1, 39),
  (110, (.iconst 0, 111, 0, 0, .int 0, []), 0, 0),
  (111, (.aload_n 0, 112, 0, 0, .null, []), 0, 0),
  (112, (.getfield 27, 115, 1, 5, .null, []), 1, 39),
  (115, (.iconst 0, 116, 0, 0, .int 0, []), 0, 0),
  (116, (.bipush 6, 118, 0, 0, .int 6, []), 0, 0),
  (118, (.invokestatic 43, 121, 999, 0, .null, []), 2, 132),
  (121, (.return_, 122, 0, 0, .null, []), 0, 0)]
/-- ThreadBank$Memory.isPlace(II)Z -/
def qc_24 : List qm_E := [
  (0, (.iload_n 0, 1, 0, 0, .null, []), 0, 0),
  (1, (.ifCond .lt 23, 4, 24, 0, .null, []), 0, 0),
  (4, (.iload_n 0, 5, 0, 0, .null, []), 0, 0),
  (5, (.bipush 10, 7, 0, 0, .int 10, []), 0, 0),
  (7, (.idiv, 8, 0, 0, .null, []), 0, 0),
  (8, (.iload_n 1, 9, 1, 0, .null, []), 0, 0),
  (9, (.if_icmp .ge 15, 12, 24, 0, .null, []), 0, 0),
  (12, (.iload_n 0, 13, 0, 0, .null, []), 0, 0),
  (13, (.bipush 10, 15, 0, 0, .int 10, []), 0, 0),
  (15, (.irem, 16, 0, 0, .null, []), 0, 0),
  (16, (.iconst 5, 17, 0, 0, .int 5, []), 0, 0),
  (17, (.if_icmp .ge 7, 20, 24, 0, .null, []), 0, 0),
  (20, (.iconst 1, 21, 0, 0, .int 1, []), 0, 0),
  (21, (.goto 4, 24, 25, 0, .null, []), 0, 0),
  (24, (.iconst 0, 25, 0, 0, .int 0, []), 0, 0),
  (25, (.ireturn, 26, 0, 0, .null, []), 0, 0)]
/-- ThreadBank$Memory.isPair(II)Z -/
def qc_25 : List qm_E := [
  (0, (.iload_n 0, 1, 0, 0, .null, []), 0, 0),
  (1, (.bipush 10, 3, 0, 0, .int 10, []), 0, 0),
  (3, (.idiv, 4, 0, 0, .null, []), 0, 0),
  (4, (.istore_n 2, 5, 2, 0, .null, []), 0, 0),
  (5, (.iload_n 0, 6, 0, 0, .null, []), 0, 0),
  (6, (.bipush 10, 8, 0, 0, .int 10, []), 0, 0),
  (8, (.irem, 9, 0, 0, .null, []), 0, 0),
  (9, (.istore_n 3, 10, 3, 0, .null, []), 0, 0),
  (10, (.iload_n 0, 11, 0, 0, .null, []), 0, 0),
  (11, (.ifCond .lt 22, 14, 33, 0, .null, []), 0, 0),
  (14, (.iload_n 2, 15, 2, 0, .null, []), 0, 0),
  (15, (.iload_n 1, 16, 1, 0, .null, []), 0, 0),
  (16, (.if_icmp .ge 17, 19, 33, 0, .null, []), 0, 0),
  (19, (.iload_n 3, 20, 3, 0, .null, []), 0, 0),
  (20, (.iload_n 1, 21, 1, 0, .null, []), 0, 0),
  (21, (.if_icmp .ge 12, 24, 33, 0, .null, []), 0, 0),
  (24, (.iload_n 2, 25, 2, 0, .null, []), 0, 0),
  (25, (.iload_n 3, 26, 3, 0, .null, []), 0, 0),
  (26, (.if_icmp .eq 7, 29, 33, 0, .null, []), 0, 0),
  (29, (.iconst 1, 30, 0, 0, .int 1, []), 0, 0),
  (30, (.goto 4, 33, 34, 0, .null, []), 0, 0),
  (33, (.iconst 0, 34, 0, 0, .int 0, []), 0, 0),
  (34, (.ireturn, 35, 0, 0, .null, []), 0, 0)]
/-- ThreadBank$Memory.isKnot(I)Z -/
def qc_26 : List qm_E := [
  (0, (.iload_n 0, 1, 0, 0, .null, []), 0, 0),
  (1, (.bipush 10, 3, 0, 0, .int 10, []), 0, 0),
  (3, (.if_icmp .lt 13, 6, 16, 0, .null, []), 0, 0),
  (6, (.iload_n 0, 7, 0, 0, .null, []), 0, 0),
  (7, (.bipush 99, 9, 0, 0, .int 99, []), 0, 0),
  (9, (.if_icmp .gt 7, 12, 16, 0, .null, []), 0, 0),
  (12, (.iconst 1, 13, 0, 0, .int 1, []), 0, 0),
  (13, (.goto 4, 16, 17, 0, .null, []), 0, 0),
  (16, (.iconst 0, 17, 0, 0, .int 0, []), 0, 0),
  (17, (.ireturn, 18, 0, 0, .null, []), 0, 0)]
/-- ThreadBank$Memory.roomOf(II)I -/
def qc_27 : List qm_E := [
  (0, (.iload_n 0, 1, 0, 0, .null, []), 0, 0),
  (1, (.ifCond .lt 17, 4, 18, 0, .null, []), 0, 0),
  (4, (.iload_n 0, 5, 0, 0, .null, []), 0, 0),
  (5, (.iconst 4, 6, 0, 0, .int 4, []), 0, 0),
  (6, (.if_icmp .ge 12, 9, 18, 0, .null, []), 0, 0),
  (9, (.iload_n 1, 10, 1, 0, .null, []), 0, 0),
  (10, (.ifCond .lt 8, 13, 18, 0, .null, []), 0, 0),
  (13, (.iload_n 1, 14, 1, 0, .null, []), 0, 0),
  (14, (.iconst 5, 15, 0, 0, .int 5, []), 0, 0),
  (15, (.if_icmp .lt 5, 18, 20, 0, .null, []), 0, 0),
  (18, (.iconst 0, 19, 0, 0, .int 0, []), 0, 0),
  (19, (.ireturn, 20, 0, 0, .null, []), 0, 0),
  (20, (.getstatic 49, 23, 0, 0, .ref 100, []), 2, 27),
  (23, (.iconst 5, 24, 0, 0, .int 5, []), 0, 0),
  (24, (.iload_n 0, 25, 0, 0, .null, []), 0, 0),
  (25, (.imul, 26, 0, 0, .null, []), 0, 0),
  (26, (.iload_n 1, 27, 1, 0, .null, []), 0, 0),
  (27, (.iadd, 28, 0, 0, .null, []), 0, 0),
  (28, (.iaload, 29, 0, 0, .null, []), 0, 0),
  (29, (.ireturn, 30, 0, 0, .null, []), 0, 0)]
/-- ThreadBank$Memory.hasClerk(I)Z -/
def qc_28 : List qm_E := [
  (0, (.iload_n 1, 1, 1, 0, .null, []), 0, 0),
  (1, (.ifCond .lt 15, 4, 16, 0, .null, []), 0, 0),
  (4, (.iload_n 1, 5, 1, 0, .null, []), 0, 0),
  (5, (.aload_n 0, 6, 0, 0, .null, []), 0, 0),
  (6, (.getfield 30, 9, 1, 6, .null, []), 1, 40),
  (9, (.if_icmp .ge 7, 12, 16, 0, .null, []), 0, 0),
  (12, (.iconst 1, 13, 0, 0, .int 1, []), 0, 0),
  (13, (.goto 4, 16, 17, 0, .null, []), 0, 0),
  (16, (.iconst 0, 17, 0, 0, .int 0, []), 0, 0),
  (17, (.ireturn, 18, 0, 0, .null, []), 0, 0)]
/-- ThreadBank$Memory.hasThread(I)Z -/
def qc_29 : List qm_E := [
  (0, (.iload_n 1, 1, 1, 0, .null, []), 0, 0),
  (1, (.ifCond .lt 15, 4, 16, 0, .null, []), 0, 0),
  (4, (.iload_n 1, 5, 1, 0, .null, []), 0, 0),
  (5, (.aload_n 0, 6, 0, 0, .null, []), 0, 0),
  (6, (.getfield 34, 9, 1, 7, .null, []), 1, 42),
  (9, (.if_icmp .ge 7, 12, 16, 0, .null, []), 0, 0),
  (12, (.iconst 1, 13, 0, 0, .int 1, []), 0, 0),
  (13, (.goto 4, 16, 17, 0, .null, []), 0, 0),
  (16, (.iconst 0, 17, 0, 0, .int 0, []), 0, 0),
  (17, (.ireturn, 18, 0, 0, .null, []), 0, 0)]
/-- ThreadBank$Memory.hasPlace(I)Z -/
def qc_30 : List qm_E := [
  (0, (.iload_n 1, 1, 1, 0, .null, []), 0, 0),
  (1, (.aload_n 0, 2, 0, 0, .null, []), 0, 0),
  (2, (.getfield 30, 5, 1, 6, .null, []), 1, 40),
  (5, (.invokestatic 52, 8, 24, 2, .null, []), 1, 237),
  (8, (.ireturn, 9, 0, 0, .null, []), 0, 0)]
/-- ThreadBank$Memory.hasPair(I)Z -/
def qc_31 : List qm_E := [
  (0, (.iload_n 1, 1, 1, 0, .null, []), 0, 0),
  (1, (.aload_n 0, 2, 0, 0, .null, []), 0, 0),
  (2, (.getfield 30, 5, 1, 6, .null, []), 1, 40),
  (5, (.invokestatic 56, 8, 25, 2, .null, []), 2, 4),
  (8, (.ireturn, 9, 0, 0, .null, []), 0, 0)]
/-- ThreadBank$Memory.kindOf(I)I -/
def qc_32 : List qm_E := [
  (0, (.aload_n 0, 1, 0, 0, .null, []), 0, 0),
  (1, (.iload_n 1, 2, 1, 0, .null, []), 0, 0),
  (2, (.invokevirtual 59, 5, 28, 1, .null, []), 2, 20),
  (5, (.ifCond .eq 12, 8, 17, 0, .null, []), 0, 0),
  (8, (.aload_n 0, 9, 0, 0, .null, []), 0, 0),
  (9, (.getfield 9, 12, 1, 0, .null, []), 1, 28),
  (12, (.iload_n 1, 13, 1, 0, .null, []), 0, 0),
  (13, (.iaload, 14, 0, 0, .null, []), 0, 0),
  (14, (.goto 5, 17, 19, 0, .null, []), 0, 0),
  (17, (.bipush (-4), 19, 0, 0, .int (-4 : Int32), []), 0, 0),
  (19, (.ireturn, 20, 0, 0, .null, []), 0, 0)]
/-- ThreadBank$Memory.handOf(I)I -/
def qc_33 : List qm_E := [
  (0, (.aload_n 0, 1, 0, 0, .null, []), 0, 0),
  (1, (.iload_n 1, 2, 1, 0, .null, []), 0, 0),
  (2, (.invokevirtual 63, 5, 29, 1, .null, []), 2, 169),
  (5, (.ifCond .eq 15, 8, 20, 0, .null, []), 0, 0),
  (8, (.aload_n 0, 9, 0, 0, .null, []), 0, 0),
  (9, (.getfield 15, 12, 1, 1, .null, []), 1, 30),
  (12, (.iload_n 1, 13, 1, 0, .null, []), 0, 0),
  (13, (.iaload, 14, 0, 0, .null, []), 0, 0),
  (14, (.bipush 10, 16, 0, 0, .int 10, []), 0, 0),
  (16, (.idiv, 17, 0, 0, .null, []), 0, 0),
  (17, (.goto 5, 20, 22, 0, .null, []), 0, 0),
  (20, (.bipush (-4), 22, 0, 0, .int (-4 : Int32), []), 0, 0),
  (22, (.ireturn, 23, 0, 0, .null, []), 0, 0)]
/-- ThreadBank$Memory.threadBits()I -/
def qc_34 : List qm_E := [
  (0, (.iconst 1, 1, 0, 0, .int 1, []), 0, 0),
  (1, (.aload_n 0, 2, 0, 0, .null, []), 0, 0),
  (2, (.getfield 34, 5, 1, 7, .null, []), 1, 42),
  (5, (.ishl, 6, 0, 0, .null, []), 0, 0),
  (6, (.iconst 1, 7, 0, 0, .int 1, []), 0, 0),
  (7, (.isub, 8, 0, 0, .null, []), 0, 0),
  (8, (.ireturn, 9, 0, 0, .null, []), 0, 0)]
/-- ThreadBank$Memory.threadsAt(I)I -/
def qc_35 : List qm_E := [
  (0, (.iconst 0, 1, 0, 0, .int 0, []), 0, 0),
  (1, (.istore_n 2, 2, 2, 0, .null, []), 0, 0),
  (2, (.iconst 0, 3, 0, 0, .int 0, []), 0, 0),
  (3, (.istore_n 3, 4, 3, 0, .null, []), 0, 0),
  (4, (.iload_n 3, 5, 3, 0, .null, []), 0, 0),
  (5, (.aload_n 0, 6, 0, 0, .null, []), 0, 0),
  (6, (.getfield 34, 9, 1, 7, .null, []), 1, 42),
  (9, (.if_icmp .ge 22, 12, 31, 0, .null, []), 0, 0),
  (12, (.aload_n 0, 13, 0, 0, .null, []), 0, 0),
  (13, (.getfield 15, 16, 1, 1, .null, []), 1, 30),
  (16, (.iload_n 3, 17, 3, 0, .null, []), 0, 0),
  (17, (.iaload, 18, 0, 0, .null, []), 0, 0),
  (18, (.iload_n 1, 19, 1, 0, .null, []), 0, 0),
  (19, (.if_icmp .ne 6, 22, 25, 0, .null, []), 0, 0),
  (22, (.iinc 2 1, 25, 2, 0, .int 1, []), 0, 0),
  (25, (.iinc 3 1, 28, 3, 0, .int 1, []), 0, 0),
  (28, (.goto (-24), 31, 4, 0, .null, []), 0, 0),
  (31, (.iload_n 2, 32, 2, 0, .null, []), 0, 0),
  (32, (.ireturn, 33, 0, 0, .null, []), 0, 0)]
/-- ThreadBank$Memory.threadsOn(I)I -/
def qc_36 : List qm_E := [
  (0, (.iconst 0, 1, 0, 0, .int 0, []), 0, 0),
  (1, (.istore_n 2, 2, 2, 0, .null, []), 0, 0),
  (2, (.iconst 0, 3, 0, 0, .int 0, []), 0, 0),
  (3, (.istore_n 3, 4, 3, 0, .null, []), 0, 0),
  (4, (.iload_n 3, 5, 3, 0, .null, []), 0, 0),
  (5, (.aload_n 0, 6, 0, 0, .null, []), 0, 0),
  (6, (.getfield 34, 9, 1, 7, .null, []), 1, 42),
  (9, (.if_icmp .ge 21, 12, 30, 0, .null, []), 0, 0),
  (12, (.aload_n 0, 13, 0, 0, .null, []), 0, 0),
  (13, (.iload_n 3, 14, 3, 0, .null, []), 0, 0),
  (14, (.invokevirtual 66, 17, 33, 1, .null, []), 2, 165),
  (17, (.iload_n 1, 18, 1, 0, .null, []), 0, 0),
  (18, (.if_icmp .ne 6, 21, 24, 0, .null, []), 0, 0),
  (21, (.iinc 2 1, 24, 2, 0, .int 1, []), 0, 0),
  (24, (.iinc 3 1, 27, 3, 0, .int 1, []), 0, 0),
  (27, (.goto (-23), 30, 4, 0, .null, []), 0, 0),
  (30, (.iload_n 2, 31, 2, 0, .null, []), 0, 0),
  (31, (.ireturn, 32, 0, 0, .null, []), 0, 0)]
/-- ThreadBank$Memory.roomAt(I)I -/
def qc_37 : List qm_E := [
  (0, (.aload_n 0, 1, 0, 0, .null, []), 0, 0),
  (1, (.iload_n 1, 2, 1, 0, .null, []), 0, 0),
  (2, (.invokevirtual 70, 5, 30, 1, .null, []), 2, 15),
  (5, (.ifCond .eq 21, 8, 26, 0, .null, []), 0, 0),
  (8, (.aload_n 0, 9, 0, 0, .null, []), 0, 0),
  (9, (.iload_n 1, 10, 1, 0, .null, []), 0, 0),
  (10, (.bipush 10, 12, 0, 0, .int 10, []), 0, 0),
  (12, (.idiv, 13, 0, 0, .null, []), 0, 0),
  (13, (.invokevirtual 73, 16, 32, 1, .null, []), 2, 16),
  (16, (.iload_n 1, 17, 1, 0, .null, []), 0, 0),
  (17, (.bipush 10, 19, 0, 0, .int 10, []), 0, 0),
  (19, (.irem, 20, 0, 0, .null, []), 0, 0),
  (20, (.invokestatic 76, 23, 27, 2, .null, []), 2, 24),
  (23, (.goto 4, 26, 27, 0, .null, []), 0, 0),
  (26, (.iconst 0, 27, 0, 0, .int 0, []), 0, 0),
  (27, (.ireturn, 28, 0, 0, .null, []), 0, 0)]
/-- ThreadBank$Memory.roomOn(I)I -/
def qc_38 : List qm_E := [
  (0, (.iconst 0, 1, 0, 0, .int 0, []), 0, 0),
  (1, (.istore_n 2, 2, 2, 0, .null, []), 0, 0),
  (2, (.iconst 0, 3, 0, 0, .int 0, []), 0, 0),
  (3, (.istore_n 3, 4, 3, 0, .null, []), 0, 0),
  (4, (.iload_n 3, 5, 3, 0, .null, []), 0, 0),
  (5, (.iconst 5, 6, 0, 0, .int 5, []), 0, 0),
  (6, (.if_icmp .ge 22, 9, 28, 0, .null, []), 0, 0),
  (9, (.iload_n 2, 10, 2, 0, .null, []), 0, 0),
  (10, (.aload_n 0, 11, 0, 0, .null, []), 0, 0),
  (11, (.bipush 10, 13, 0, 0, .int 10, []), 0, 0),
  (13, (.iload_n 1, 14, 1, 0, .null, []), 0, 0),
  (14, (.imul, 15, 0, 0, .null, []), 0, 0),
  (15, (.iload_n 3, 16, 3, 0, .null, []), 0, 0),
  (16, (.iadd, 17, 0, 0, .null, []), 0, 0),
  (17, (.invokevirtual 80, 20, 37, 1, .null, []), 2, 11),
  (20, (.iadd, 21, 0, 0, .null, []), 0, 0),
  (21, (.istore_n 2, 22, 2, 0, .null, []), 0, 0),
  (22, (.iinc 3 1, 25, 3, 0, .int 1, []), 0, 0),
  (25, (.goto (-21), 28, 4, 0, .null, []), 0, 0),
  (28, (.iload_n 2, 29, 2, 0, .null, []), 0, 0),
  (29, (.ireturn, 30, 0, 0, .null, []), 0, 0)]
/-- ThreadBank$Memory.roomOfAll()I -/
def qc_39 : List qm_E := [
  (0, (.iconst 0, 1, 0, 0, .int 0, []), 0, 0),
  (1, (.istore_n 1, 2, 1, 0, .null, []), 0, 0),
  (2, (.iconst 0, 3, 0, 0, .int 0, []), 0, 0),
  (3, (.istore_n 2, 4, 2, 0, .null, []), 0, 0),
  (4, (.iload_n 2, 5, 2, 0, .null, []), 0, 0),
  (5, (.aload_n 0, 6, 0, 0, .null, []), 0, 0),
  (6, (.getfield 30, 9, 1, 6, .null, []), 1, 40),
  (9, (.if_icmp .ge 17, 12, 26, 0, .null, []), 0, 0),
  (12, (.iload_n 1, 13, 1, 0, .null, []), 0, 0),
  (13, (.aload_n 0, 14, 0, 0, .null, []), 0, 0),
  (14, (.iload_n 2, 15, 2, 0, .null, []), 0, 0),
  (15, (.invokevirtual 83, 18, 38, 1, .null, []), 2, 147),
  (18, (.iadd, 19, 0, 0, .null, []), 0, 0),
  (19, (.istore_n 1, 20, 1, 0, .null, []), 0, 0),
  (20, (.iinc 2 1, 23, 2, 0, .int 1, []), 0, 0),
  (23, (.goto (-19), 26, 4, 0, .null, []), 0, 0),
  (26, (.iload_n 1, 27, 1, 0, .null, []), 0, 0),
  (27, (.ireturn, 28, 0, 0, .null, []), 0, 0)]
/-- ThreadBank$Memory.roomLeftAt(I)I -/
def qc_40 : List qm_E := [
  (0, (.aload_n 0, 1, 0, 0, .null, []), 0, 0),
  (1, (.iload_n 1, 2, 1, 0, .null, []), 0, 0),
  (2, (.invokevirtual 80, 5, 37, 1, .null, []), 2, 11),
  (5, (.aload_n 0, 6, 0, 0, .null, []), 0, 0),
  (6, (.iload_n 1, 7, 1, 0, .null, []), 0, 0),
  (7, (.invokevirtual 86, 10, 35, 1, .null, []), 2, 29),
  (10, (.isub, 11, 0, 0, .null, []), 0, 0),
  (11, (.ireturn, 12, 0, 0, .null, []), 0, 0)]
/-- ThreadBank$Memory.roomLeftOn(I)I -/
def qc_41 : List qm_E := [
  (0, (.aload_n 0, 1, 0, 0, .null, []), 0, 0),
  (1, (.iload_n 1, 2, 1, 0, .null, []), 0, 0),
  (2, (.invokevirtual 83, 5, 38, 1, .null, []), 2, 147),
  (5, (.aload_n 0, 6, 0, 0, .null, []), 0, 0),
  (6, (.iload_n 1, 7, 1, 0, .null, []), 0, 0),
  (7, (.invokevirtual 89, 10, 36, 1, .null, []), 3, 115),
  (10, (.isub, 11, 0, 0, .null, []), 0, 0),
  (11, (.ireturn, 12, 0, 0, .null, []), 0, 0)]
/-- ThreadBank$Memory.fingersOfRoom(I)I -/
def qc_42 : List qm_E := [
  (0, (.iconst 0, 1, 0, 0, .int 0, []), 0, 0),
  (1, (.istore_n 2, 2, 2, 0, .null, []), 0, 0),
  (2, (.iconst 0, 3, 0, 0, .int 0, []), 0, 0),
  (3, (.istore_n 3, 4, 3, 0, .null, []), 0, 0),
  (4, (.iload_n 3, 5, 3, 0, .null, []), 0, 0),
  (5, (.aload_n 0, 6, 0, 0, .null, []), 0, 0),
  (6, (.getfield 30, 9, 1, 6, .null, []), 1, 40),
  (9, (.if_icmp .ge 42, 12, 51, 0, .null, []), 0, 0),
  (12, (.iconst 0, 13, 0, 0, .int 0, []), 0, 0),
  (13, (.istore 4, 15, 4, 0, .null, []), 0, 0),
  (15, (.iload 4, 17, 4, 0, .null, []), 0, 0),
  (17, (.iconst 5, 18, 0, 0, .int 5, []), 0, 0),
  (18, (.if_icmp .ge 27, 21, 45, 0, .null, []), 0, 0),
  (21, (.aload_n 0, 22, 0, 0, .null, []), 0, 0),
  (22, (.bipush 10, 24, 0, 0, .int 10, []), 0, 0),
  (24, (.iload_n 3, 25, 3, 0, .null, []), 0, 0),
  (25, (.imul, 26, 0, 0, .null, []), 0, 0),
  (26, (.iload 4, 28, 4, 0, .null, []), 0, 0),
  (28, (.iadd, 29, 0, 0, .null, []), 0, 0),
  (29, (.invokevirtual 80, 32, 37, 1, .null, []), 2, 11),
  (32, (.iload_n 1, 33, 1, 0, .null, []), 0, 0),
  (33, (.if_icmp .ne 6, 36, 39, 0, .null, []), 0, 0),
  (36, (.iinc 2 1, 39, 2, 0, .int 1, []), 0, 0),
  (39, (.iinc 4 1, 42, 4, 0, .int 1, []), 0, 0),
  (42, (.goto (-27), 45, 15, 0, .null, []), 0, 0),
  (45, (.iinc 3 1, 48, 3, 0, .int 1, []), 0, 0),
  (48, (.goto (-44), 51, 4, 0, .null, []), 0, 0),
  (51, (.iload_n 2, 52, 2, 0, .null, []), 0, 0),
  (52, (.ireturn, 53, 0, 0, .null, []), 0, 0)]
/-- ThreadBank$Memory.fingersInUse()I -/
def qc_43 : List qm_E := [
  (0, (.iconst 0, 1, 0, 0, .int 0, []), 0, 0),
  (1, (.istore_n 1, 2, 1, 0, .null, []), 0, 0),
  (2, (.iconst 0, 3, 0, 0, .int 0, []), 0, 0),
  (3, (.istore_n 2, 4, 2, 0, .null, []), 0, 0),
  (4, (.iload_n 2, 5, 2, 0, .null, []), 0, 0),
  (5, (.aload_n 0, 6, 0, 0, .null, []), 0, 0),
  (6, (.getfield 30, 9, 1, 6, .null, []), 1, 40),
  (9, (.if_icmp .ge 38, 12, 47, 0, .null, []), 0, 0),
  (12, (.iconst 0, 13, 0, 0, .int 0, []), 0, 0),
  (13, (.istore_n 3, 14, 3, 0, .null, []), 0, 0),
  (14, (.iload_n 3, 15, 3, 0, .null, []), 0, 0),
  (15, (.iconst 5, 16, 0, 0, .int 5, []), 0, 0),
  (16, (.if_icmp .ge 25, 19, 41, 0, .null, []), 0, 0),
  (19, (.aload_n 0, 20, 0, 0, .null, []), 0, 0),
  (20, (.bipush 10, 22, 0, 0, .int 10, []), 0, 0),
  (22, (.iload_n 2, 23, 2, 0, .null, []), 0, 0),
  (23, (.imul, 24, 0, 0, .null, []), 0, 0),
  (24, (.iload_n 3, 25, 3, 0, .null, []), 0, 0),
  (25, (.iadd, 26, 0, 0, .null, []), 0, 0),
  (26, (.invokevirtual 86, 29, 35, 1, .null, []), 2, 29),
  (29, (.ifCond .le 6, 32, 35, 0, .null, []), 0, 0),
  (32, (.iinc 1 1, 35, 1, 0, .int 1, []), 0, 0),
  (35, (.iinc 3 1, 38, 3, 0, .int 1, []), 0, 0),
  (38, (.goto (-24), 41, 14, 0, .null, []), 0, 0),
  (41, (.iinc 2 1, 44, 2, 0, .int 1, []), 0, 0),
  (44, (.goto (-40), 47, 4, 0, .null, []), 0, 0),
  (47, (.iload_n 1, 48, 1, 0, .null, []), 0, 0),
  (48, (.ireturn, 49, 0, 0, .null, []), 0, 0)]
/-- ThreadBank$Memory.addClerk(I)Z -/
def qc_44 : List qm_E := [
  (0, (.aload_n 0, 1, 0, 0, .null, []), 0, 0),
  (1, (.getfield 30, 4, 1, 6, .null, []), 1, 40),
  (4, (.iconst 4, 5, 0, 0, .int 4, []), 0, 0),
  (5, (.if_icmp .lt 5, 8, 10, 0, .null, []), 0, 0),
  (8, (.iconst 0, 9, 0, 0, .int 0, []), 0, 0),
  (9, (.ireturn, 10, 0, 0, .null, []), 0, 0),
  (10, (.aload_n 0, 11, 0, 0, .null, []), 0, 0),
  (11, (.getfield 9, 14, 1, 0, .null, []), 1, 28),
  (14, (.aload_n 0, 15, 0, 0, .null, []), 0, 0),
  (15, (.getfield 30, 18, 1, 6, .null, []), 1, 40),
  (18, (.iload_n 1, 19, 1, 0, .null, []), 0, 0),
  (19, (.iastore, 20, 0, 0, .null, []), 0, 0),
  (20, (.aload_n 0, 21, 0, 0, .null, []), 0, 0),
  (21, (.dup, 22, 0, 0, .null, []), 0, 0),
  (22, (.getfield 30, 25, 1, 6, .null, []), 1, 40),
  (25, (.iconst 1, 26, 0, 0, .int 1, []), 0, 0),
  (26, (.iadd, 27, 0, 0, .null, []), 0, 0),
  (27, (.putfield 30, 30, 1, 6, .null, []), 1, 40),
  (30, (.iconst 1, 31, 0, 0, .int 1, []), 0, 0),
  (31, (.ireturn, 32, 0, 0, .null, []), 0, 0)]
/-- ThreadBank$Memory.addThread(III)Z -/
def qc_45 : List qm_E := [
  (0, (.aload_n 0, 1, 0, 0, .null, []), 0, 0),
  (1, (.getfield 34, 4, 1, 7, .null, []), 1, 42),
  (4, (.bipush 10, 6, 0, 0, .int 10, []), 0, 0),
  (6, (.if_icmp .lt 5, 9, 11, 0, .null, []), 0, 0),
  (9, (.iconst 0, 10, 0, 0, .int 0, []), 0, 0),
  (10, (.ireturn, 11, 0, 0, .null, []), 0, 0),
  (11, (.aload_n 0, 12, 0, 0, .null, []), 0, 0),
  (12, (.getfield 15, 15, 1, 1, .null, []), 1, 30),
  (15, (.aload_n 0, 16, 0, 0, .null, []), 0, 0),
  (16, (.getfield 34, 19, 1, 7, .null, []), 1, 42),
  (19, (.iload_n 1, 20, 1, 0, .null, []), 0, 0),
  (20, (.iastore, 21, 0, 0, .null, []), 0, 0),
  (21, (.aload_n 0, 22, 0, 0, .null, []), 0, 0),
  (22, (.getfield 18, 25, 1, 2, .null, []), 1, 33),
  (25, (.aload_n 0, 26, 0, 0, .null, []), 0, 0),
  (26, (.getfield 34, 29, 1, 7, .null, []), 1, 42),
  (29, (.iload_n 2, 30, 2, 0, .null, []), 0, 0),
  (30, (.iastore, 31, 0, 0, .null, []), 0, 0),
  (31, (.aload_n 0, 32, 0, 0, .null, []), 0, 0),
  (32, (.getfield 21, 35, 1, 3, .null, []), 1, 36),
  (35, (.aload_n 0, 36, 0, 0, .null, []), 0, 0),
  (36, (.getfield 34, 39, 1, 7, .null, []), 1, 42),
  (39, (.iload_n 3, 40, 3, 0, .null, []), 0, 0),
  (40, (.iastore, 41, 0, 0, .null, []), 0, 0),
  (41, (.aload_n 0, 42, 0, 0, .null, []), 0, 0),
  (42, (.dup, 43, 0, 0, .null, []), 0, 0),
  (43, (.getfield 34, 46, 1, 7, .null, []), 1, 42),
  (46, (.iconst 1, 47, 0, 0, .int 1, []), 0, 0),
  (47, (.iadd, 48, 0, 0, .null, []), 0, 0),
  (48, (.putfield 34, 51, 1, 7, .null, []), 1, 42),
  (51, (.iconst 1, 52, 0, 0, .int 1, []), 0, 0),
  (52, (.ireturn, 53, 0, 0, .null, []), 0, 0)]
/-- ThreadBank$Memory.addSeen(II)Z -/
def qc_46 : List qm_E := [
  (0, (.aload_n 0, 1, 0, 0, .null, []), 0, 0),
  (1, (.getfield 40, 4, 1, 9, .null, []), 1, 48),
  (4, (.bipush 6, 6, 0, 0, .int 6, []), 0, 0),
  (6, (.if_icmp .lt 5, 9, 11, 0, .null, []), 0, 0),
  (9, (.iconst 0, 10, 0, 0, .int 0, []), 0, 0),
  (10, (.ireturn, 11, 0, 0, .null, []), 0, 0),
  (11, (.aload_n 0, 12, 0, 0, .null, []), 0, 0),
  (12, (.getfield 24, 15, 1, 4, .null, []), 1, 38),
  (15, (.aload_n 0, 16, 0, 0, .null, []), 0, 0),
  (16, (.getfield 40, 19, 1, 9, .null, []), 1, 48),
  (19, (.iload_n 1, 20, 1, 0, .null, []), 0, 0),
  (20, (.iastore, 21, 0, 0, .null, []), 0, 0),
  (21, (.aload_n 0, 22, 0, 0, .null, []), 0, 0),
  (22, (.getfield 27, 25, 1, 5, .null, []), 1, 39),
  (25, (.aload_n 0, 26, 0, 0, .null, []), 0, 0),
  (26, (.getfield 40, 29, 1, 9, .null, []), 1, 48),
  (29, (.iload_n 2, 30, 2, 0, .null, []), 0, 0),
  (30, (.iastore, 31, 0, 0, .null, []), 0, 0),
  (31, (.aload_n 0, 32, 0, 0, .null, []), 0, 0),
  (32, (.dup, 33, 0, 0, .null, []), 0, 0),
  (33, (.getfield 40, 36, 1, 9, .null, []), 1, 48),
  (36, (.iconst 1, 37, 0, 0, .int 1, []), 0, 0),
  (37, (.iadd, 38, 0, 0, .null, []), 0, 0),
  (38, (.putfield 40, 41, 1, 9, .null, []), 1, 48),
  (41, (.iconst 1, 42, 0, 0, .int 1, []), 0, 0),
  (42, (.ireturn, 43, 0, 0, .null, []), 0, 0)]
/-- ThreadBank$Memory.tieIfMay(III)I -/
def qc_47 : List qm_E := [
  (0, (.aload_n 0, 1, 0, 0, .null, []), 0, 0),
  (1, (.iload_n 1, 2, 1, 0, .null, []), 0, 0),
  (2, (.invokevirtual 70, 5, 30, 1, .null, []), 2, 15),
  (5, (.ifCond .eq 18, 8, 23, 0, .null, []), 0, 0),
  (8, (.aload_n 0, 9, 0, 0, .null, []), 0, 0),
  (9, (.iload_n 2, 10, 2, 0, .null, []), 0, 0),
  (10, (.invokevirtual 92, 13, 31, 1, .null, []), 2, 215),
  (13, (.ifCond .eq 10, 16, 23, 0, .null, []), 0, 0),
  (16, (.iload_n 3, 17, 3, 0, .null, []), 0, 0),
  (17, (.invokestatic 95, 20, 26, 1, .null, []), 2, 216),
  (20, (.ifCond .ne 5, 23, 25, 0, .null, []), 0, 0),
  (23, (.iconst (-1), 24, 0, 0, .int (-1 : Int32), []), 0, 0),
  (24, (.ireturn, 25, 0, 0, .null, []), 0, 0),
  (25, (.aload_n 0, 26, 0, 0, .null, []), 0, 0),
  (26, (.iload_n 1, 27, 1, 0, .null, []), 0, 0),
  (27, (.invokevirtual 98, 30, 40, 1, .null, []), 2, 217),
  (30, (.ifCond .le 13, 33, 43, 0, .null, []), 0, 0),
  (33, (.aload_n 0, 34, 0, 0, .null, []), 0, 0),
  (34, (.iload_n 1, 35, 1, 0, .null, []), 0, 0),
  (35, (.iload_n 2, 36, 2, 0, .null, []), 0, 0),
  (36, (.iload_n 3, 37, 3, 0, .null, []), 0, 0),
  (37, (.invokevirtual 101, 40, 45, 3, .null, []), 2, 218),
  (40, (.ifCond .ne 6, 43, 46, 0, .null, []), 0, 0),
  (43, (.bipush (-3), 45, 0, 0, .int (-3 : Int32), []), 0, 0),
  (45, (.ireturn, 46, 0, 0, .null, []), 0, 0),
  (46, (.aload_n 0, 47, 0, 0, .null, []), 0, 0),
  (47, (.getfield 34, 50, 1, 7, .null, []), 1, 42),
  (50, (.iconst 1, 51, 0, 0, .int 1, []), 0, 0),
  (51, (.isub, 52, 0, 0, .null, []), 0, 0),
  (52, (.ireturn, 53, 0, 0, .null, []), 0, 0)]
/-- ThreadBank$Memory.cutThread(I)V -/
def qc_48 : List qm_E := [
  (0, (.aload_n 0, 1, 0, 0, .null, []), 0, 0),
  (1, (.iload_n 1, 2, 1, 0, .null, []), 0, 0),
  (2, (.invokevirtual 63, 5, 29, 1, .null, []), 2, 169),
  (5, (.ifCond .ne 4, 8, 9, 0, .null, []), 0, 0),
  (8, (.return_, 9, 0, 0, .null, []), 0, 0),
  (9, (.iload_n 1, 10, 1, 0, .null, []), 0, 0),
  (10, (.istore_n 2, 11, 2, 0, .null, []), 0, 0),
  (11, (.iload_n 2, 12, 2, 0, .null, []), 0, 0),
  (12, (.aload_n 0, 13, 0, 0, .null, []), 0, 0),
  (13, (.getfield 34, 16, 1, 7, .null, []), 1, 42),
  (16, (.iconst 1, 17, 0, 0, .int 1, []), 0, 0),
  (17, (.isub, 18, 0, 0, .null, []), 0, 0),
  (18, (.if_icmp .ge 51, 21, 69, 0, .null, []), 0, 0),
  (21, (.aload_n 0, 22, 0, 0, .null, []), 0, 0),
  (22, (.getfield 15, 25, 1, 1, .null, []), 1, 30),
  (25, (.iload_n 2, 26, 2, 0, .null, []), 0, 0),
  (26, (.aload_n 0, 27, 0, 0, .null, []), 0, 0),
  (27, (.getfield 15, 30, 1, 1, .null, []), 1, 30),
  (30, (.iload_n 2, 31, 2, 0, .null, []), 0, 0),
  (31, (.iconst 1, 32, 0, 0, .int 1, []), 0, 0),
  (32, (.iadd, 33, 0, 0, .null, []), 0, 0),
  (33, (.iaload, 34, 0, 0, .null, []), 0, 0),
  (34, (.iastore, 35, 0, 0, .null, []), 0, 0),
  (35, (.aload_n 0, 36, 0, 0, .null, []), 0, 0),
  (36, (.getfield 18, 39, 1, 2, .null, []), 1, 33),
  (39, (.iload_n 2, 40, 2, 0, .null, []), 0, 0),
  (40, (.aload_n 0, 41, 0, 0, .null, []), 0, 0),
  (41, (.getfield 18, 44, 1, 2, .null, []), 1, 33),
  (44, (.iload_n 2, 45, 2, 0, .null, []), 0, 0),
  (45, (.iconst 1, 46, 0, 0, .int 1, []), 0, 0),
  (46, (.iadd, 47, 0, 0, .null, []), 0, 0),
  (47, (.iaload, 48, 0, 0, .null, []), 0, 0),
  (48, (.iastore, 49, 0, 0, .null, []), 0, 0),
  (49, (.aload_n 0, 50, 0, 0, .null, []), 0, 0),
  (50, (.getfield 21, 53, 1, 3, .null, []), 1, 36),
  (53, (.iload_n 2, 54, 2, 0, .null, []), 0, 0),
  (54, (.aload_n 0, 55, 0, 0, .null, []), 0, 0),
  (55, (.getfield 21, 58, 1, 3, .null, []), 1, 36),
  (58, (.iload_n 2, 59, 2, 0, .null, []), 0, 0),
  (59, (.iconst 1, 60, 0, 0, .int 1, []), 0, 0),
  (60, (.iadd, 61, 0, 0, .null, []), 0, 0),
  (61, (.iaload, 62, 0, 0, .null, []), 0, 0),
  (62, (.iastore, 63, 0, 0, .null, []), 0, 0),
  (63, (.iinc 2 1, 66, 2, 0, .int 1, []), 0, 0),
  (66, (.goto (-55), 69, 11, 0, .null, []), 0, 0),
  (69, (.aload_n 0, 70, 0, 0, .null, []), 0, 0),
  (70, (.dup, 71, 0, 0, .null, []), 0, 0),
  (71, (.getfield 34, 74, 1, 7, .null, []), 1, 42),
  (74, (.iconst 1, 75, 0, 0, .int 1, []), 0, 0),
  (75, (.isub, 76, 0, 0, .null, []), 0, 0),
  (76, (.putfield 34, 79, 1, 7, .null, []), 1, 42),
  (79, (.return_, 80, 0, 0, .null, []), 0, 0)]
/-- ThreadBank$Memory.sameDebt(II)Z -/
def qc_49 : List qm_E := [
  (0, (.aload_n 0, 1, 0, 0, .null, []), 0, 0),
  (1, (.iload_n 1, 2, 1, 0, .null, []), 0, 0),
  (2, (.invokevirtual 63, 5, 29, 1, .null, []), 2, 169),
  (5, (.ifCond .eq 45, 8, 50, 0, .null, []), 0, 0),
  (8, (.aload_n 0, 9, 0, 0, .null, []), 0, 0),
  (9, (.iload_n 2, 10, 2, 0, .null, []), 0, 0),
  (10, (.invokevirtual 63, 13, 29, 1, .null, []), 2, 169),
  (13, (.ifCond .eq 37, 16, 50, 0, .null, []), 0, 0),
  (16, (.aload_n 0, 17, 0, 0, .null, []), 0, 0),
  (17, (.getfield 18, 20, 1, 2, .null, []), 1, 33),
  (20, (.iload_n 1, 21, 1, 0, .null, []), 0, 0),
  (21, (.iaload, 22, 0, 0, .null, []), 0, 0),
  (22, (.aload_n 0, 23, 0, 0, .null, []), 0, 0),
  (23, (.getfield 18, 26, 1, 2, .null, []), 1, 33),
  (26, (.iload_n 2, 27, 2, 0, .null, []), 0, 0),
  (27, (.iaload, 28, 0, 0, .null, []), 0, 0),
  (28, (.if_icmp .ne 22, 31, 50, 0, .null, []), 0, 0),
  (31, (.aload_n 0, 32, 0, 0, .null, []), 0, 0),
  (32, (.getfield 21, 35, 1, 3, .null, []), 1, 36),
  (35, (.iload_n 1, 36, 1, 0, .null, []), 0, 0),
  (36, (.iaload, 37, 0, 0, .null, []), 0, 0),
  (37, (.aload_n 0, 38, 0, 0, .null, []), 0, 0),
  (38, (.getfield 21, 41, 1, 3, .null, []), 1, 36),
  (41, (.iload_n 2, 42, 2, 0, .null, []), 0, 0),
  (42, (.iaload, 43, 0, 0, .null, []), 0, 0),
  (43, (.if_icmp .ne 7, 46, 50, 0, .null, []), 0, 0),
  (46, (.iconst 1, 47, 0, 0, .int 1, []), 0, 0),
  (47, (.goto 4, 50, 51, 0, .null, []), 0, 0),
  (50, (.iconst 0, 51, 0, 0, .int 0, []), 0, 0),
  (51, (.ireturn, 52, 0, 0, .null, []), 0, 0)]
/-- ThreadBank$Memory.originalsOf(I)I -/
def qc_50 : List qm_E := [
  (0, (.iconst 0, 1, 0, 0, .int 0, []), 0, 0),
  (1, (.istore_n 2, 2, 2, 0, .null, []), 0, 0),
  (2, (.iconst 0, 3, 0, 0, .int 0, []), 0, 0),
  (3, (.istore_n 3, 4, 3, 0, .null, []), 0, 0),
  (4, (.iload_n 3, 5, 3, 0, .null, []), 0, 0),
  (5, (.iload_n 1, 6, 1, 0, .null, []), 0, 0),
  (6, (.if_icmp .ge 37, 9, 43, 0, .null, []), 0, 0),
  (9, (.aload_n 0, 10, 0, 0, .null, []), 0, 0),
  (10, (.iload_n 1, 11, 1, 0, .null, []), 0, 0),
  (11, (.iload_n 3, 12, 3, 0, .null, []), 0, 0),
  (12, (.invokevirtual 105, 15, 49, 2, .null, []), 2, 190),
  (15, (.ifCond .eq 22, 18, 37, 0, .null, []), 0, 0),
  (18, (.aload_n 0, 19, 0, 0, .null, []), 0, 0),
  (19, (.iload_n 1, 20, 1, 0, .null, []), 0, 0),
  (20, (.invokevirtual 66, 23, 33, 1, .null, []), 2, 165),
  (23, (.aload_n 0, 24, 0, 0, .null, []), 0, 0),
  (24, (.iload_n 3, 25, 3, 0, .null, []), 0, 0),
  (25, (.invokevirtual 66, 28, 33, 1, .null, []), 2, 165),
  (28, (.if_icmp .eq 9, 31, 37, 0, .null, []), 0, 0),
  (31, (.iload_n 2, 32, 2, 0, .null, []), 0, 0),
  (32, (.iconst 1, 33, 0, 0, .int 1, []), 0, 0),
  (33, (.iload_n 3, 34, 3, 0, .null, []), 0, 0),
  (34, (.ishl, 35, 0, 0, .null, []), 0, 0),
  (35, (.ior, 36, 0, 0, .null, []), 0, 0),
  (36, (.istore_n 2, 37, 2, 0, .null, []), 0, 0),
  (37, (.iinc 3 1, 40, 3, 0, .int 1, []), 0, 0),
  (40, (.goto (-36), 43, 4, 0, .null, []), 0, 0),
  (43, (.iload_n 2, 44, 2, 0, .null, []), 0, 0),
  (44, (.ireturn, 45, 0, 0, .null, []), 0, 0)]
/-- ThreadBank$Memory.isCopy(I)Z -/
def qc_51 : List qm_E := [
  (0, (.aload_n 0, 1, 0, 0, .null, []), 0, 0),
  (1, (.iload_n 1, 2, 1, 0, .null, []), 0, 0),
  (2, (.invokevirtual 108, 5, 50, 1, .null, []), 2, 186),
  (5, (.ifCond .eq 7, 8, 12, 0, .null, []), 0, 0),
  (8, (.iconst 1, 9, 0, 0, .int 1, []), 0, 0),
  (9, (.goto 4, 12, 13, 0, .null, []), 0, 0),
  (12, (.iconst 0, 13, 0, 0, .int 0, []), 0, 0),
  (13, (.ireturn, 14, 0, 0, .null, []), 0, 0)]
/-- ThreadBank$Memory.copiesTied()I -/
def qc_52 : List qm_E := [
  (0, (.iconst 0, 1, 0, 0, .int 0, []), 0, 0),
  (1, (.istore_n 1, 2, 1, 0, .null, []), 0, 0),
  (2, (.iconst 0, 3, 0, 0, .int 0, []), 0, 0),
  (3, (.istore_n 2, 4, 2, 0, .null, []), 0, 0),
  (4, (.iload_n 2, 5, 2, 0, .null, []), 0, 0),
  (5, (.aload_n 0, 6, 0, 0, .null, []), 0, 0),
  (6, (.getfield 34, 9, 1, 7, .null, []), 1, 42),
  (9, (.if_icmp .ge 20, 12, 29, 0, .null, []), 0, 0),
  (12, (.aload_n 0, 13, 0, 0, .null, []), 0, 0),
  (13, (.iload_n 2, 14, 2, 0, .null, []), 0, 0),
  (14, (.invokevirtual 111, 17, 51, 1, .null, []), 2, 182),
  (17, (.ifCond .eq 6, 20, 23, 0, .null, []), 0, 0),
  (20, (.iinc 1 1, 23, 1, 0, .int 1, []), 0, 0),
  (23, (.iinc 2 1, 26, 2, 0, .int 1, []), 0, 0),
  (26, (.goto (-22), 29, 4, 0, .null, []), 0, 0),
  (29, (.iload_n 1, 30, 1, 0, .null, []), 0, 0),
  (30, (.ireturn, 31, 0, 0, .null, []), 0, 0)]
/-- ThreadBank$Memory.owedBy(II)I -/
def qc_53 : List qm_E := [
  (0, (.iconst 0, 1, 0, 0, .int 0, []), 0, 0),
  (1, (.istore_n 3, 2, 3, 0, .null, []), 0, 0),
  (2, (.iconst 0, 3, 0, 0, .int 0, []), 0, 0),
  (3, (.istore 4, 5, 4, 0, .null, []), 0, 0),
  (5, (.iload 4, 7, 4, 0, .null, []), 0, 0),
  (7, (.aload_n 0, 8, 0, 0, .null, []), 0, 0),
  (8, (.getfield 34, 11, 1, 7, .null, []), 1, 42),
  (11, (.if_icmp .ge 56, 14, 67, 0, .null, []), 0, 0),
  (14, (.aload_n 0, 15, 0, 0, .null, []), 0, 0),
  (15, (.getfield 18, 18, 1, 2, .null, []), 1, 33),
  (18, (.iload 4, 20, 4, 0, .null, []), 0, 0),
  (20, (.iaload, 21, 0, 0, .null, []), 0, 0),
  (21, (.iload_n 1, 22, 1, 0, .null, []), 0, 0),
  (22, (.if_icmp .ne 39, 25, 61, 0, .null, []), 0, 0),
  (25, (.aload_n 0, 26, 0, 0, .null, []), 0, 0),
  (26, (.getfield 21, 29, 1, 3, .null, []), 1, 36),
  (29, (.iload 4, 31, 4, 0, .null, []), 0, 0),
  (31, (.iaload, 32, 0, 0, .null, []), 0, 0),
  (32, (.bipush 10, 34, 0, 0, .int 10, []), 0, 0),
  (34, (.irem, 35, 0, 0, .null, []), 0, 0),
  (35, (.iload_n 2, 36, 2, 0, .null, []), 0, 0),
  (36, (.if_icmp .gt 25, 39, 61, 0, .null, []), 0, 0),
  (39, (.aload_n 0, 40, 0, 0, .null, []), 0, 0),
  (40, (.iload 4, 42, 4, 0, .null, []), 0, 0),
  (42, (.invokevirtual 111, 45, 51, 1, .null, []), 2, 182),
  (45, (.ifCond .ne 16, 48, 61, 0, .null, []), 0, 0),
  (48, (.iload_n 3, 49, 3, 0, .null, []), 0, 0),
  (49, (.aload_n 0, 50, 0, 0, .null, []), 0, 0),
  (50, (.getfield 21, 53, 1, 3, .null, []), 1, 36),
  (53, (.iload 4, 55, 4, 0, .null, []), 0, 0),
  (55, (.iaload, 56, 0, 0, .null, []), 0, 0),
  (56, (.bipush 10, 58, 0, 0, .int 10, []), 0, 0),
  (58, (.idiv, 59, 0, 0, .null, []), 0, 0),
  (59, (.iadd, 60, 0, 0, .null, []), 0, 0),
  (60, (.istore_n 3, 61, 3, 0, .null, []), 0, 0),
  (61, (.iinc 4 1, 64, 4, 0, .int 1, []), 0, 0),
  (64, (.goto (-59), 67, 5, 0, .null, []), 0, 0),
  (67, (.iload_n 3, 68, 3, 0, .null, []), 0, 0),
  (68, (.ireturn, 69, 0, 0, .null, []), 0, 0)]
/-- ThreadBank$Memory.owedInAll(I)I -/
def qc_54 : List qm_E := [
  (0, (.iconst 0, 1, 0, 0, .int 0, []), 0, 0),
  (1, (.istore_n 2, 2, 2, 0, .null, []), 0, 0),
  (2, (.iconst 0, 3, 0, 0, .int 0, []), 0, 0),
  (3, (.istore_n 3, 4, 3, 0, .null, []), 0, 0),
  (4, (.iload_n 3, 5, 3, 0, .null, []), 0, 0),
  (5, (.aload_n 0, 6, 0, 0, .null, []), 0, 0),
  (6, (.getfield 30, 9, 1, 6, .null, []), 1, 40),
  (9, (.if_icmp .ge 42, 12, 51, 0, .null, []), 0, 0),
  (12, (.iconst 0, 13, 0, 0, .int 0, []), 0, 0),
  (13, (.istore 4, 15, 4, 0, .null, []), 0, 0),
  (15, (.iload 4, 17, 4, 0, .null, []), 0, 0),
  (17, (.aload_n 0, 18, 0, 0, .null, []), 0, 0),
  (18, (.getfield 30, 21, 1, 6, .null, []), 1, 40),
  (21, (.if_icmp .ge 24, 24, 45, 0, .null, []), 0, 0),
  (24, (.iload_n 2, 25, 2, 0, .null, []), 0, 0),
  (25, (.aload_n 0, 26, 0, 0, .null, []), 0, 0),
  (26, (.bipush 10, 28, 0, 0, .int 10, []), 0, 0),
  (28, (.iload_n 3, 29, 3, 0, .null, []), 0, 0),
  (29, (.imul, 30, 0, 0, .null, []), 0, 0),
  (30, (.iload 4, 32, 4, 0, .null, []), 0, 0),
  (32, (.iadd, 33, 0, 0, .null, []), 0, 0),
  (33, (.iload_n 1, 34, 1, 0, .null, []), 0, 0),
  (34, (.invokevirtual 114, 37, 53, 2, .null, []), 2, 178),
  (37, (.iadd, 38, 0, 0, .null, []), 0, 0),
  (38, (.istore_n 2, 39, 2, 0, .null, []), 0, 0),
  (39, (.iinc 4 1, 42, 4, 0, .int 1, []), 0, 0),
  (42, (.goto (-27), 45, 15, 0, .null, []), 0, 0),
  (45, (.iinc 3 1, 48, 3, 0, .int 1, []), 0, 0),
  (48, (.goto (-44), 51, 4, 0, .null, []), 0, 0),
  (51, (.iload_n 2, 52, 2, 0, .null, []), 0, 0),
  (52, (.ireturn, 53, 0, 0, .null, []), 0, 0)]
/-- ThreadBank$Memory.netOf(I)I -/
def qc_55 : List qm_E := [
  (0, (.iconst 0, 1, 0, 0, .int 0, []), 0, 0),
  (1, (.istore_n 2, 2, 2, 0, .null, []), 0, 0),
  (2, (.iconst 0, 3, 0, 0, .int 0, []), 0, 0),
  (3, (.istore_n 3, 4, 3, 0, .null, []), 0, 0),
  (4, (.iload_n 3, 5, 3, 0, .null, []), 0, 0),
  (5, (.aload_n 0, 6, 0, 0, .null, []), 0, 0),
  (6, (.getfield 30, 9, 1, 6, .null, []), 1, 40),
  (9, (.if_icmp .ge 39, 12, 48, 0, .null, []), 0, 0),
  (12, (.iload_n 2, 13, 2, 0, .null, []), 0, 0),
  (13, (.aload_n 0, 14, 0, 0, .null, []), 0, 0),
  (14, (.bipush 10, 16, 0, 0, .int 10, []), 0, 0),
  (16, (.iload_n 3, 17, 3, 0, .null, []), 0, 0),
  (17, (.imul, 18, 0, 0, .null, []), 0, 0),
  (18, (.iload_n 1, 19, 1, 0, .null, []), 0, 0),
  (19, (.iadd, 20, 0, 0, .null, []), 0, 0),
  (20, (.bipush 9, 22, 0, 0, .int 9, []), 0, 0),
  (22, (.invokevirtual 114, 25, 53, 2, .null, []), 2, 178),
  (25, (.iadd, 26, 0, 0, .null, []), 0, 0),
  (26, (.istore_n 2, 27, 2, 0, .null, []), 0, 0),
  (27, (.iload_n 2, 28, 2, 0, .null, []), 0, 0),
  (28, (.aload_n 0, 29, 0, 0, .null, []), 0, 0),
  (29, (.bipush 10, 31, 0, 0, .int 10, []), 0, 0),
  (31, (.iload_n 1, 32, 1, 0, .null, []), 0, 0),
  (32, (.imul, 33, 0, 0, .null, []), 0, 0),
  (33, (.iload_n 3, 34, 3, 0, .null, []), 0, 0),
  (34, (.iadd, 35, 0, 0, .null, []), 0, 0),
  (35, (.bipush 9, 37, 0, 0, .int 9, []), 0, 0),
  (37, (.invokevirtual 114, 40, 53, 2, .null, []), 2, 178),
  (40, (.isub, 41, 0, 0, .null, []), 0, 0),
  (41, (.istore_n 2, 42, 2, 0, .null, []), 0, 0),
  (42, (.iinc 3 1, 45, 3, 0, .int 1, []), 0, 0),
  (45, (.goto (-41), 48, 4, 0, .null, []), 0, 0),
  (48, (.iload_n 2, 49, 2, 0, .null, []), 0, 0),
  (49, (.ireturn, 50, 0, 0, .null, []), 0, 0)]
/-- ThreadBank$Memory.noteOriginals([I)V -/
def qc_56 : List qm_E := [
  (0, (.iconst 0, 1, 0, 0, .int 0, []), 0, 0),
  (1, (.istore_n 2, 2, 2, 0, .null, []), 0, 0),
  (2, (.iload_n 2, 3, 2, 0, .null, []), 0, 0),
  (3, (.aload_n 0, 4, 0, 0, .null, []), 0, 0),
  (4, (.getfield 34, 7, 1, 7, .null, []), 1, 42),
  (7, (.if_icmp .ge 23, 10, 30, 0, .null, []), 0, 0),
  (10, (.iload_n 2, 11, 2, 0, .null, []), 0, 0),
  (11, (.aload_n 1, 12, 1, 0, .null, []), 0, 0),
  (12, (.arraylength, 13, 0, 0, .null, []), 0, 0),
  (13, (.if_icmp .ge 17, 16, 30, 0, .null, []), 0, 0),
  (16, (.aload_n 1, 17, 1, 0, .null, []), 0, 0),
  (17, (.iload_n 2, 18, 2, 0, .null, []), 0, 0),
  (18, (.aload_n 0, 19, 0, 0, .null, []), 0, 0),
  (19, (.iload_n 2, 20, 2, 0, .null, []), 0, 0),
  (20, (.invokevirtual 108, 23, 50, 1, .null, []), 2, 186),
  (23, (.iastore, 24, 0, 0, .null, []), 0, 0),
  (24, (.iinc 2 1, 27, 2, 0, .int 1, []), 0, 0),
  (27, (.goto (-25), 30, 2, 0, .null, []), 0, 0),
  (30, (.return_, 31, 0, 0, .null, []), 0, 0)]
/-- ThreadBank$Memory.owedWithout(II[I)I -/
def qc_57 : List qm_E := [
  (0, (.iconst 0, 1, 0, 0, .int 0, []), 0, 0),
  (1, (.istore 4, 3, 4, 0, .null, []), 0, 0),
  (3, (.iconst 0, 4, 0, 0, .int 0, []), 0, 0),
  (4, (.istore 5, 6, 5, 0, .null, []), 0, 0),
  (6, (.iload 5, 8, 5, 0, .null, []), 0, 0),
  (8, (.aload_n 0, 9, 0, 0, .null, []), 0, 0),
  (9, (.getfield 34, 12, 1, 7, .null, []), 1, 42),
  (12, (.if_icmp .ge 62, 15, 74, 0, .null, []), 0, 0),
  (15, (.iload 5, 17, 5, 0, .null, []), 0, 0),
  (17, (.aload_n 3, 18, 3, 0, .null, []), 0, 0),
  (18, (.arraylength, 19, 0, 0, .null, []), 0, 0),
  (19, (.if_icmp .ge 55, 22, 74, 0, .null, []), 0, 0),
  (22, (.aload_n 0, 23, 0, 0, .null, []), 0, 0),
  (23, (.getfield 18, 26, 1, 2, .null, []), 1, 33),
  (26, (.iload 5, 28, 5, 0, .null, []), 0, 0),
  (28, (.iaload, 29, 0, 0, .null, []), 0, 0),
  (29, (.iload_n 2, 30, 2, 0, .null, []), 0, 0),
  (30, (.if_icmp .ne 38, 33, 68, 0, .null, []), 0, 0),
  (33, (.iload_n 1, 34, 1, 0, .null, []), 0, 0),
  (34, (.iload 5, 36, 5, 0, .null, []), 0, 0),
  (36, (.invokestatic 117, 39, 138, 2, .null, []), 99, 0),
  (39, (.ifCond .ne 29, 42, 68, 0, .null, []), 0, 0),
  (42, (.aload_n 3, 43, 3, 0, .null, []), 0, 0),
  (43, (.iload 5, 45, 5, 0, .null, []), 0, 0),
  (45, (.iaload, 46, 0, 0, .null, []), 0, 0),
  (46, (.iload_n 1, 47, 1, 0, .null, []), 0, 0),
  (47, (.iconst (-1), 48, 0, 0, .int (-1 : Int32), []), 0, 0),
  (48, (.ixor, 49, 0, 0, .null, []), 0, 0),
  (49, (.iand, 50, 0, 0, .null, []), 0, 0),
  (50, (.ifCond .ne 18, 53, 68, 0, .null, []), 0, 0),
  (53, (.iload 4, 55, 4, 0, .null, []), 0, 0),
  (55, (.aload_n 0, 56, 0, 0, .null, []), 0, 0),
  (56, (.getfield 21, 59, 1, 3, .null, []), 1, 36),
  (59, (.iload 5, 61, 5, 0, .null, []), 0, 0),
  (61, (.iaload, 62, 0, 0, .null, []), 0, 0),
  (62, (.bipush 10, 64, 0, 0, .int 10, []), 0, 0),
  (64, (.idiv, 65, 0, 0, .null, []), 0, 0),
  (65, (.iadd, 66, 0, 0, .null, []), 0, 0),
  (66, (.istore 4, 68, 4, 0, .null, []), 0, 0),
  (68, (.iinc 5 1, 71, 5, 0, .int 1, []), 0, 0),
  (71, (.goto (-65), 74, 6, 0, .null, []), 0, 0),
  (74, (.iload 4, 76, 4, 0, .null, []), 0, 0),
  (76, (.ireturn, 77, 0, 0, .null, []), 0, 0)]
/-- ThreadBank$Memory.isAsSeen(I[I)Z -/
def qc_58 : List qm_E := [
  (0, (.iconst 0, 1, 0, 0, .int 0, []), 0, 0),
  (1, (.istore_n 3, 2, 3, 0, .null, []), 0, 0),
  (2, (.iload_n 3, 3, 3, 0, .null, []), 0, 0),
  (3, (.aload_n 0, 4, 0, 0, .null, []), 0, 0),
  (4, (.getfield 40, 7, 1, 9, .null, []), 1, 48),
  (7, (.if_icmp .ge 32, 10, 39, 0, .null, []), 0, 0),
  (10, (.aload_n 0, 11, 0, 0, .null, []), 0, 0),
  (11, (.iload_n 1, 12, 1, 0, .null, []), 0, 0),
  (12, (.aload_n 0, 13, 0, 0, .null, []), 0, 0),
  (13, (.getfield 24, 16, 1, 4, .null, []), 1, 38),
  (16, (.iload_n 3, 17, 3, 0, .null, []), 0, 0),
  (17, (.iaload, 18, 0, 0, .null, []), 0, 0),
  (18, (.aload_n 2, 19, 2, 0, .null, []), 0, 0),
  (19, (.invokevirtual 120, 22, 57, 3, .null, []), 3, 220),
  (22, (.aload_n 0, 23, 0, 0, .null, []), 0, 0),
  (23, (.getfield 27, 26, 1, 5, .null, []), 1, 39),
  (26, (.iload_n 3, 27, 3, 0, .null, []), 0, 0),
  (27, (.iaload, 28, 0, 0, .null, []), 0, 0),
  (28, (.if_icmp .eq 5, 31, 33, 0, .null, []), 0, 0),
  (31, (.iconst 0, 32, 0, 0, .int 0, []), 0, 0),
  (32, (.ireturn, 33, 0, 0, .null, []), 0, 0),
  (33, (.iinc 3 1, 36, 3, 0, .int 1, []), 0, 0),
  (36, (.goto (-34), 39, 2, 0, .null, []), 0, 0),
  (39, (.iconst 1, 40, 0, 0, .int 1, []), 0, 0),
  (40, (.ireturn, 41, 0, 0, .null, []), 0, 0)]
/-- ThreadBank$Memory.isFirstOfDebt(I)Z -/
def qc_59 : List qm_E := [
  (0, (.iconst 0, 1, 0, 0, .int 0, []), 0, 0),
  (1, (.istore_n 2, 2, 2, 0, .null, []), 0, 0),
  (2, (.iload_n 2, 3, 2, 0, .null, []), 0, 0),
  (3, (.iload_n 1, 4, 1, 0, .null, []), 0, 0),
  (4, (.if_icmp .ge 20, 7, 24, 0, .null, []), 0, 0),
  (7, (.aload_n 0, 8, 0, 0, .null, []), 0, 0),
  (8, (.iload_n 1, 9, 1, 0, .null, []), 0, 0),
  (9, (.iload_n 2, 10, 2, 0, .null, []), 0, 0),
  (10, (.invokevirtual 105, 13, 49, 2, .null, []), 2, 190),
  (13, (.ifCond .eq 5, 16, 18, 0, .null, []), 0, 0),
  (16, (.iconst 0, 17, 0, 0, .int 0, []), 0, 0),
  (17, (.ireturn, 18, 0, 0, .null, []), 0, 0),
  (18, (.iinc 2 1, 21, 2, 0, .int 1, []), 0, 0),
  (21, (.goto (-19), 24, 2, 0, .null, []), 0, 0),
  (24, (.iconst 1, 25, 0, 0, .int 1, []), 0, 0),
  (25, (.ireturn, 26, 0, 0, .null, []), 0, 0)]
/-- ThreadBank$Memory.debts()I -/
def qc_60 : List qm_E := [
  (0, (.iconst 0, 1, 0, 0, .int 0, []), 0, 0),
  (1, (.istore_n 1, 2, 1, 0, .null, []), 0, 0),
  (2, (.iconst 0, 3, 0, 0, .int 0, []), 0, 0),
  (3, (.istore_n 2, 4, 2, 0, .null, []), 0, 0),
  (4, (.iload_n 2, 5, 2, 0, .null, []), 0, 0),
  (5, (.aload_n 0, 6, 0, 0, .null, []), 0, 0),
  (6, (.getfield 34, 9, 1, 7, .null, []), 1, 42),
  (9, (.if_icmp .ge 20, 12, 29, 0, .null, []), 0, 0),
  (12, (.aload_n 0, 13, 0, 0, .null, []), 0, 0),
  (13, (.iload_n 2, 14, 2, 0, .null, []), 0, 0),
  (14, (.invokevirtual 124, 17, 59, 1, .null, []), 3, 128),
  (17, (.ifCond .eq 6, 20, 23, 0, .null, []), 0, 0),
  (20, (.iinc 1 1, 23, 1, 0, .int 1, []), 0, 0),
  (23, (.iinc 2 1, 26, 2, 0, .int 1, []), 0, 0),
  (26, (.goto (-22), 29, 4, 0, .null, []), 0, 0),
  (29, (.iload_n 1, 30, 1, 0, .null, []), 0, 0),
  (30, (.ireturn, 31, 0, 0, .null, []), 0, 0)]
/-- ThreadBank$Memory.isKeptWithout(II)Z -/
def qc_61 : List qm_E := [
  (0, (.iconst 0, 1, 0, 0, .int 0, []), 0, 0),
  (1, (.istore_n 3, 2, 3, 0, .null, []), 0, 0),
  (2, (.iload_n 3, 3, 3, 0, .null, []), 0, 0),
  (3, (.aload_n 0, 4, 0, 0, .null, []), 0, 0),
  (4, (.getfield 34, 7, 1, 7, .null, []), 1, 42),
  (7, (.if_icmp .ge 32, 10, 39, 0, .null, []), 0, 0),
  (10, (.aload_n 0, 11, 0, 0, .null, []), 0, 0),
  (11, (.iload_n 1, 12, 1, 0, .null, []), 0, 0),
  (12, (.iload_n 3, 13, 3, 0, .null, []), 0, 0),
  (13, (.invokevirtual 105, 16, 49, 2, .null, []), 2, 190),
  (16, (.ifCond .eq 17, 19, 33, 0, .null, []), 0, 0),
  (19, (.iload_n 2, 20, 2, 0, .null, []), 0, 0),
  (20, (.aload_n 0, 21, 0, 0, .null, []), 0, 0),
  (21, (.iload_n 3, 22, 3, 0, .null, []), 0, 0),
  (22, (.invokevirtual 66, 25, 33, 1, .null, []), 2, 165),
  (25, (.invokestatic 117, 28, 138, 2, .null, []), 99, 0),
  (28, (.ifCond .ne 5, 31, 33, 0, .null, []), 0, 0),
  (31, (.iconst 1, 32, 0, 0, .int 1, []), 0, 0),
  (32, (.ireturn, 33, 0, 0, .null, []), 0, 0),
  (33, (.iinc 3 1, 36, 3, 0, .int 1, []), 0, 0),
  (36, (.goto (-34), 39, 2, 0, .null, []), 0, 0),
  (39, (.iconst 0, 40, 0, 0, .int 0, []), 0, 0),
  (40, (.ireturn, 41, 0, 0, .null, []), 0, 0)]
/-- ThreadBank$Memory.debtsLostWith(I)I -/
def qc_62 : List qm_E := [
  (0, (.iconst 0, 1, 0, 0, .int 0, []), 0, 0),
  (1, (.istore_n 2, 2, 2, 0, .null, []), 0, 0),
  (2, (.iconst 0, 3, 0, 0, .int 0, []), 0, 0),
  (3, (.istore_n 3, 4, 3, 0, .null, []), 0, 0),
  (4, (.iload_n 3, 5, 3, 0, .null, []), 0, 0),
  (5, (.aload_n 0, 6, 0, 0, .null, []), 0, 0),
  (6, (.getfield 34, 9, 1, 7, .null, []), 1, 42),
  (9, (.if_icmp .ge 29, 12, 38, 0, .null, []), 0, 0),
  (12, (.aload_n 0, 13, 0, 0, .null, []), 0, 0),
  (13, (.iload_n 3, 14, 3, 0, .null, []), 0, 0),
  (14, (.invokevirtual 124, 17, 59, 1, .null, []), 3, 128),
  (17, (.ifCond .eq 15, 20, 32, 0, .null, []), 0, 0),
  (20, (.aload_n 0, 21, 0, 0, .null, []), 0, 0),
  (21, (.iload_n 3, 22, 3, 0, .null, []), 0, 0),
  (22, (.iload_n 1, 23, 1, 0, .null, []), 0, 0),
  (23, (.invokevirtual 127, 26, 61, 2, .null, []), 3, 132),
  (26, (.ifCond .ne 6, 29, 32, 0, .null, []), 0, 0),
  (29, (.iinc 2 1, 32, 2, 0, .int 1, []), 0, 0),
  (32, (.iinc 3 1, 35, 3, 0, .int 1, []), 0, 0),
  (35, (.goto (-31), 38, 4, 0, .null, []), 0, 0),
  (38, (.iload_n 2, 39, 2, 0, .null, []), 0, 0),
  (39, (.ireturn, 40, 0, 0, .null, []), 0, 0)]
/-- ThreadBank$Memory.quarrelOf(II)Z -/
def qc_63 : List qm_E := [
  (0, (.aload_n 0, 1, 0, 0, .null, []), 0, 0),
  (1, (.iload_n 1, 2, 1, 0, .null, []), 0, 0),
  (2, (.invokevirtual 63, 5, 29, 1, .null, []), 2, 169),
  (5, (.ifCond .eq 11, 8, 16, 0, .null, []), 0, 0),
  (8, (.aload_n 0, 9, 0, 0, .null, []), 0, 0),
  (9, (.iload_n 2, 10, 2, 0, .null, []), 0, 0),
  (10, (.invokevirtual 63, 13, 29, 1, .null, []), 2, 169),
  (13, (.ifCond .ne 5, 16, 18, 0, .null, []), 0, 0),
  (16, (.iconst 0, 17, 0, 0, .int 0, []), 0, 0),
  (17, (.ireturn, 18, 0, 0, .null, []), 0, 0),
  (18, (.aload_n 0, 19, 0, 0, .null, []), 0, 0),
  (19, (.getfield 21, 22, 1, 3, .null, []), 1, 36),
  (22, (.iload_n 1, 23, 1, 0, .null, []), 0, 0),
  (23, (.iaload, 24, 0, 0, .null, []), 0, 0),
  (24, (.bipush 10, 26, 0, 0, .int 10, []), 0, 0),
  (26, (.irem, 27, 0, 0, .null, []), 0, 0),
  (27, (.aload_n 0, 28, 0, 0, .null, []), 0, 0),
  (28, (.getfield 21, 31, 1, 3, .null, []), 1, 36),
  (31, (.iload_n 2, 32, 2, 0, .null, []), 0, 0),
  (32, (.iaload, 33, 0, 0, .null, []), 0, 0),
  (33, (.bipush 10, 35, 0, 0, .int 10, []), 0, 0),
  (35, (.irem, 36, 0, 0, .null, []), 0, 0),
  (36, (.if_icmp .ne 7, 39, 43, 0, .null, []), 0, 0),
  (39, (.iconst 1, 40, 0, 0, .int 1, []), 0, 0),
  (40, (.goto 4, 43, 44, 0, .null, []), 0, 0),
  (43, (.iconst 0, 44, 0, 0, .int 0, []), 0, 0),
  (44, (.istore_n 3, 45, 3, 0, .null, []), 0, 0),
  (45, (.aload_n 0, 46, 0, 0, .null, []), 0, 0),
  (46, (.getfield 21, 49, 1, 3, .null, []), 1, 36),
  (49, (.iload_n 1, 50, 1, 0, .null, []), 0, 0),
  (50, (.iaload, 51, 0, 0, .null, []), 0, 0),
  (51, (.bipush 10, 53, 0, 0, .int 10, []), 0, 0),
  (53, (.idiv, 54, 0, 0, .null, []), 0, 0),
  (54, (.aload_n 0, 55, 0, 0, .null, []), 0, 0),
  (55, (.getfield 21, 58, 1, 3, .null, []), 1, 36),
  (58, (.iload_n 2, 59, 2, 0, .null, []), 0, 0),
  (59, (.iaload, 60, 0, 0, .null, []), 0, 0),
  (60, (.bipush 10, 62, 0, 0, .int 10, []), 0, 0),
  (62, (.idiv, 63, 0, 0, .null, []), 0, 0),
  (63, (.if_icmp .ne 7, 66, 70, 0, .null, []), 0, 0),
  (66, (.iconst 1, 67, 0, 0, .int 1, []), 0, 0),
  (67, (.goto 4, 70, 71, 0, .null, []), 0, 0),
  (70, (.iconst 0, 71, 0, 0, .int 0, []), 0, 0),
  (71, (.istore 4, 73, 4, 0, .null, []), 0, 0),
  (73, (.aload_n 0, 74, 0, 0, .null, []), 0, 0),
  (74, (.iload_n 1, 75, 1, 0, .null, []), 0, 0),
  (75, (.invokevirtual 66, 78, 33, 1, .null, []), 2, 165),
  (78, (.aload_n 0, 79, 0, 0, .null, []), 0, 0),
  (79, (.iload_n 2, 80, 2, 0, .null, []), 0, 0),
  (80, (.invokevirtual 66, 83, 33, 1, .null, []), 2, 165),
  (83, (.if_icmp .eq 31, 86, 114, 0, .null, []), 0, 0),
  (86, (.aload_n 0, 87, 0, 0, .null, []), 0, 0),
  (87, (.getfield 18, 90, 1, 2, .null, []), 1, 33),
  (90, (.iload_n 1, 91, 1, 0, .null, []), 0, 0),
  (91, (.iaload, 92, 0, 0, .null, []), 0, 0),
  (92, (.aload_n 0, 93, 0, 0, .null, []), 0, 0),
  (93, (.getfield 18, 96, 1, 2, .null, []), 1, 33),
  (96, (.iload_n 2, 97, 2, 0, .null, []), 0, 0),
  (97, (.iaload, 98, 0, 0, .null, []), 0, 0),
  (98, (.if_icmp .ne 16, 101, 114, 0, .null, []), 0, 0),
  (101, (.iload_n 3, 102, 3, 0, .null, []), 0, 0),
  (102, (.ifCond .eq 12, 105, 114, 0, .null, []), 0, 0),
  (105, (.iload 4, 107, 4, 0, .null, []), 0, 0),
  (107, (.ifCond .ne 7, 110, 114, 0, .null, []), 0, 0),
  (110, (.iconst 1, 111, 0, 0, .int 1, []), 0, 0),
  (111, (.goto 4, 114, 115, 0, .null, []), 0, 0),
  (114, (.iconst 0, 115, 0, 0, .int 0, []), 0, 0),
  (115, (.ireturn, 116, 0, 0, .null, []), 0, 0)]
/-- ThreadBank$Memory.slipOdds(II)I -/
def qc_64 : List qm_E := [
  (0, (.aload_n 0, 1, 0, 0, .null, []), 0, 0),
  (1, (.aload_n 0, 2, 0, 0, .null, []), 0, 0),
  (2, (.iload_n 1, 3, 1, 0, .null, []), 0, 0),
  (3, (.invokevirtual 66, 6, 33, 1, .null, []), 2, 165),
  (6, (.invokevirtual 73, 9, 32, 1, .null, []), 2, 16),
  (9, (.lookupswitch 31 #[(2, 27), (3, 29)], 36, 40, 0, .null, [(2, 36), (3, 38)]), 0, 0),
  (36, (.iload_n 2, 37, 2, 0, .null, []), 0, 0),
  (37, (.ireturn, 38, 0, 0, .null, []), 0, 0),
  (38, (.iconst 0, 39, 0, 0, .int 0, []), 0, 0),
  (39, (.ireturn, 40, 0, 0, .null, []), 0, 0),
  (40, (.iconst 2, 41, 0, 0, .int 2, []), 0, 0),
  (41, (.iload_n 2, 42, 2, 0, .null, []), 0, 0),
  (42, (.imul, 43, 0, 0, .null, []), 0, 0),
  (43, (.ireturn, 44, 0, 0, .null, []), 0, 0)]
/-- ThreadBank$Sheets.isSheet(I)Z -/
def qc_65 : List qm_E := [
  (0, (.iload_n 0, 1, 0, 0, .null, []), 0, 0),
  (1, (.ifCond .lt 12, 4, 13, 0, .null, []), 0, 0),
  (4, (.iload_n 0, 5, 0, 0, .null, []), 0, 0),
  (5, (.iconst 4, 6, 0, 0, .int 4, []), 0, 0),
  (6, (.if_icmp .ge 7, 9, 13, 0, .null, []), 0, 0),
  (9, (.iconst 1, 10, 0, 0, .int 1, []), 0, 0),
  (10, (.goto 4, 13, 14, 0, .null, []), 0, 0),
  (13, (.iconst 0, 14, 0, 0, .int 0, []), 0, 0),
  (14, (.ireturn, 15, 0, 0, .null, []), 0, 0)]
/-- ThreadBank$Sheets.isLane(I)Z -/
def qc_66 : List qm_E := [
  (0, (.iload_n 0, 1, 0, 0, .null, []), 0, 0),
  (1, (.ifCond .lt 12, 4, 13, 0, .null, []), 0, 0),
  (4, (.iload_n 0, 5, 0, 0, .null, []), 0, 0),
  (5, (.iconst 3, 6, 0, 0, .int 3, []), 0, 0),
  (6, (.if_icmp .ge 7, 9, 13, 0, .null, []), 0, 0),
  (9, (.iconst 1, 10, 0, 0, .int 1, []), 0, 0),
  (10, (.goto 4, 13, 14, 0, .null, []), 0, 0),
  (13, (.iconst 0, 14, 0, 0, .int 0, []), 0, 0),
  (14, (.ireturn, 15, 0, 0, .null, []), 0, 0)]
/-- ThreadBank$Sheets.isNothing(I)Z -/
def qc_67 : List qm_E := [
  (0, (.iload_n 1, 1, 1, 0, .null, []), 0, 0),
  (1, (.invokestatic 21, 4, 65, 1, .null, []), 4, 20),
  (4, (.ifCond .eq 14, 7, 18, 0, .null, []), 0, 0),
  (7, (.aload_n 0, 8, 0, 0, .null, []), 0, 0),
  (8, (.getfield 18, 11, 2, 2, .null, []), 1, 145),
  (11, (.iload_n 1, 12, 1, 0, .null, []), 0, 0),
  (12, (.iaload, 13, 0, 0, .null, []), 0, 0),
  (13, (.bipush (-4), 15, 0, 0, .int (-4 : Int32), []), 0, 0),
  (15, (.if_icmp .ne 7, 18, 22, 0, .null, []), 0, 0),
  (18, (.iconst 1, 19, 0, 0, .int 1, []), 0, 0),
  (19, (.goto 4, 22, 23, 0, .null, []), 0, 0),
  (22, (.iconst 0, 23, 0, 0, .int 0, []), 0, 0),
  (23, (.ireturn, 24, 0, 0, .null, []), 0, 0)]
/-- ThreadBank$Sheets.hasCell(II)Z -/
def qc_68 : List qm_E := [
  (0, (.aload_n 0, 1, 0, 0, .null, []), 0, 0),
  (1, (.iload_n 1, 2, 1, 0, .null, []), 0, 0),
  (2, (.invokevirtual 25, 5, 67, 1, .null, []), 4, 33),
  (5, (.ifCond .ne 21, 8, 26, 0, .null, []), 0, 0),
  (8, (.iload_n 2, 9, 2, 0, .null, []), 0, 0),
  (9, (.ifCond .lt 17, 12, 26, 0, .null, []), 0, 0),
  (12, (.iload_n 2, 13, 2, 0, .null, []), 0, 0),
  (13, (.aload_n 0, 14, 0, 0, .null, []), 0, 0),
  (14, (.getfield 18, 17, 2, 2, .null, []), 1, 145),
  (17, (.iload_n 1, 18, 1, 0, .null, []), 0, 0),
  (18, (.iaload, 19, 0, 0, .null, []), 0, 0),
  (19, (.if_icmp .ge 7, 22, 26, 0, .null, []), 0, 0),
  (22, (.iconst 1, 23, 0, 0, .int 1, []), 0, 0),
  (23, (.goto 4, 26, 27, 0, .null, []), 0, 0),
  (26, (.iconst 0, 27, 0, 0, .int 0, []), 0, 0),
  (27, (.ireturn, 28, 0, 0, .null, []), 0, 0)]
/-- ThreadBank$Sheets.cell(II)I -/
def qc_69 : List qm_E := [
  (0, (.aload_n 0, 1, 0, 0, .null, []), 0, 0),
  (1, (.iload_n 1, 2, 1, 0, .null, []), 0, 0),
  (2, (.iload_n 2, 3, 2, 0, .null, []), 0, 0),
  (3, (.invokevirtual 28, 6, 68, 2, .null, []), 4, 38),
  (6, (.ifCond .eq 17, 9, 23, 0, .null, []), 0, 0),
  (9, (.aload_n 0, 10, 0, 0, .null, []), 0, 0),
  (10, (.getfield 11, 13, 2, 0, .null, []), 1, 143),
  (13, (.bipush 40, 15, 0, 0, .int 40, []), 0, 0),
  (15, (.iload_n 1, 16, 1, 0, .null, []), 0, 0),
  (16, (.imul, 17, 0, 0, .null, []), 0, 0),
  (17, (.iload_n 2, 18, 2, 0, .null, []), 0, 0),
  (18, (.iadd, 19, 0, 0, .null, []), 0, 0),
  (19, (.iaload, 20, 0, 0, .null, []), 0, 0),
  (20, (.goto 4, 23, 24, 0, .null, []), 0, 0),
  (23, (.iconst 0, 24, 0, 0, .int 0, []), 0, 0),
  (24, (.ireturn, 25, 0, 0, .null, []), 0, 0)]
/-- ThreadBank$Sheets.renew(III)V -/
def qc_70 : List qm_E := [
  (0, (.iload_n 1, 1, 1, 0, .null, []), 0, 0),
  (1, (.invokestatic 21, 4, 65, 1, .null, []), 4, 20),
  (4, (.ifCond .eq 55, 7, 59, 0, .null, []), 0, 0),
  (7, (.iload_n 3, 8, 3, 0, .null, []), 0, 0),
  (8, (.ifCond .lt 51, 11, 59, 0, .null, []), 0, 0),
  (11, (.iload_n 3, 12, 3, 0, .null, []), 0, 0),
  (12, (.bipush 40, 14, 0, 0, .int 40, []), 0, 0),
  (14, (.if_icmp .gt 45, 17, 59, 0, .null, []), 0, 0),
  (17, (.iconst 0, 18, 0, 0, .int 0, []), 0, 0),
  (18, (.istore 4, 20, 4, 0, .null, []), 0, 0),
  (20, (.iload 4, 22, 4, 0, .null, []), 0, 0),
  (22, (.iload_n 3, 23, 3, 0, .null, []), 0, 0),
  (23, (.if_icmp .ge 22, 26, 45, 0, .null, []), 0, 0),
  (26, (.aload_n 0, 27, 0, 0, .null, []), 0, 0),
  (27, (.getfield 11, 30, 2, 0, .null, []), 1, 143),
  (30, (.bipush 40, 32, 0, 0, .int 40, []), 0, 0),
  (32, (.iload_n 1, 33, 1, 0, .null, []), 0, 0),
  (33, (.imul, 34, 0, 0, .null, []), 0, 0),
  (34, (.iload 4, 36, 4, 0, .null, []), 0, 0),
  (36, (.iadd, 37, 0, 0, .null, []), 0, 0),
  (37, (.iconst 0, 38, 0, 0, .int 0, []), 0, 0),
  (38, (.iastore, 39, 0, 0, .null, []), 0, 0),
  (39, (.iinc 4 1, 42, 4, 0, .int 1, []), 0, 0),
  (42, (.goto (-22), 45, 20, 0, .null, []), 0, 0),
  (45, (.aload_n 0, 46, 0, 0, .null, []), 0, 0),
  (46, (.getfield 15, 49, 2, 1, .null, []), 1, 144),
  (49, (.iload_n 1, 50, 1, 0, .null, []), 0, 0),
  (50, (.iload_n 2, 51, 2, 0, .null, []), 0, 0),
  (51, (.iastore, 52, 0, 0, .null, []), 0, 0),
  (52, (.aload_n 0, 53, 0, 0, .null, []), 0, 0),
  (53, (.getfield 18, 56, 2, 2, .null, []), 1, 145),
  (56, (.iload_n 1, 57, 1, 0, .null, []), 0, 0),
  (57, (.iload_n 3, 58, 3, 0, .null, []), 0, 0),
  (58, (.iastore, 59, 0, 0, .null, []), 0, 0),
  (59, (.return_, 60, 0, 0, .null, []), 0, 0)]
/-- ThreadBank$Sheets.write(III)V -/
def qc_71 : List qm_E := [
  (0, (.aload_n 0, 1, 0, 0, .null, []), 0, 0),
  (1, (.iload_n 1, 2, 1, 0, .null, []), 0, 0),
  (2, (.iload_n 2, 3, 2, 0, .null, []), 0, 0),
  (3, (.invokevirtual 28, 6, 68, 2, .null, []), 4, 38),
  (6, (.ifCond .eq 24, 9, 30, 0, .null, []), 0, 0),
  (9, (.aload_n 0, 10, 0, 0, .null, []), 0, 0),
  (10, (.getfield 11, 13, 2, 0, .null, []), 1, 143),
  (13, (.bipush 40, 15, 0, 0, .int 40, []), 0, 0),
  (15, (.iload_n 1, 16, 1, 0, .null, []), 0, 0),
  (16, (.imul, 17, 0, 0, .null, []), 0, 0),
  (17, (.iload_n 2, 18, 2, 0, .null, []), 0, 0),
  (18, (.iadd, 19, 0, 0, .null, []), 0, 0),
  (19, (.aload_n 0, 20, 0, 0, .null, []), 0, 0),
  (20, (.getfield 15, 23, 2, 1, .null, []), 1, 144),
  (23, (.iload_n 1, 24, 1, 0, .null, []), 0, 0),
  (24, (.iaload, 25, 0, 0, .null, []), 0, 0),
  (25, (.iload_n 3, 26, 3, 0, .null, []), 0, 0),
  (26, (.invokestatic 32, 29, 72, 2, .null, []), 4, 39),
  (29, (.iastore, 30, 0, 0, .null, []), 0, 0),
  (30, (.return_, 31, 0, 0, .null, []), 0, 0)]
/-- ThreadBank$Sheets.lowestBits(II)I -/
def qc_72 : List qm_E := [
  (0, (.iload_n 0, 1, 0, 0, .null, []), 0, 0),
  (1, (.lookupswitch 33 #[(0, 27), (1, 30)], 28, 34, 0, .null, [(0, 28), (1, 31)]), 0, 0),
  (28, (.iload_n 1, 29, 1, 0, .null, []), 0, 0),
  (29, (.i2b, 30, 0, 0, .null, []), 0, 0),
  (30, (.ireturn, 31, 0, 0, .null, []), 0, 0),
  (31, (.iload_n 1, 32, 1, 0, .null, []), 0, 0),
  (32, (.i2s, 33, 0, 0, .null, []), 0, 0),
  (33, (.ireturn, 34, 0, 0, .null, []), 0, 0),
  (34, (.iload_n 1, 35, 1, 0, .null, []), 0, 0),
  (35, (.ireturn, 36, 0, 0, .null, []), 0, 0)]
/-- ThreadBank$Sheets.faultAsOf(II)I -/
def qc_73 : List qm_E := [
  (0, (.aload_n 0, 1, 0, 0, .null, []), 0, 0),
  (1, (.iload_n 1, 2, 1, 0, .null, []), 0, 0),
  (2, (.invokevirtual 25, 5, 67, 1, .null, []), 4, 33),
  (5, (.ifCond .ne 13, 8, 18, 0, .null, []), 0, 0),
  (8, (.aload_n 0, 9, 0, 0, .null, []), 0, 0),
  (9, (.getfield 15, 12, 2, 1, .null, []), 1, 144),
  (12, (.iload_n 1, 13, 1, 0, .null, []), 0, 0),
  (13, (.iaload, 14, 0, 0, .null, []), 0, 0),
  (14, (.iload_n 2, 15, 2, 0, .null, []), 0, 0),
  (15, (.if_icmp .ne 7, 18, 22, 0, .null, []), 0, 0),
  (18, (.iconst 0, 19, 0, 0, .int 0, []), 0, 0),
  (19, (.goto 4, 22, 23, 0, .null, []), 0, 0),
  (22, (.iconst 3, 23, 0, 0, .int 3, []), 0, 0),
  (23, (.ireturn, 24, 0, 0, .null, []), 0, 0)]
/-- ThreadBank$Sheets.faultOfThree(II)I -/
def qc_74 : List qm_E := [
  (0, (.aload_n 0, 1, 0, 0, .null, []), 0, 0),
  (1, (.iload_n 1, 2, 1, 0, .null, []), 0, 0),
  (2, (.invokevirtual 25, 5, 67, 1, .null, []), 4, 33),
  (5, (.ifCond .eq 5, 8, 10, 0, .null, []), 0, 0),
  (8, (.iconst 1, 9, 0, 0, .int 1, []), 0, 0),
  (9, (.ireturn, 10, 0, 0, .null, []), 0, 0),
  (10, (.aload_n 0, 11, 0, 0, .null, []), 0, 0),
  (11, (.iload_n 1, 12, 1, 0, .null, []), 0, 0),
  (12, (.iload_n 2, 13, 2, 0, .null, []), 0, 0),
  (13, (.invokevirtual 28, 16, 68, 2, .null, []), 4, 38),
  (16, (.ifCond .eq 29, 19, 45, 0, .null, []), 0, 0),
  (19, (.aload_n 0, 20, 0, 0, .null, []), 0, 0),
  (20, (.iload_n 1, 21, 1, 0, .null, []), 0, 0),
  (21, (.iload_n 2, 22, 2, 0, .null, []), 0, 0),
  (22, (.iconst 1, 23, 0, 0, .int 1, []), 0, 0),
  (23, (.iadd, 24, 0, 0, .null, []), 0, 0),
  (24, (.invokevirtual 28, 27, 68, 2, .null, []), 4, 38),
  (27, (.ifCond .eq 18, 30, 45, 0, .null, []), 0, 0),
  (30, (.aload_n 0, 31, 0, 0, .null, []), 0, 0),
  (31, (.iload_n 1, 32, 1, 0, .null, []), 0, 0),
  (32, (.iload_n 2, 33, 2, 0, .null, []), 0, 0),
  (33, (.iconst 2, 34, 0, 0, .int 2, []), 0, 0),
  (34, (.iadd, 35, 0, 0, .null, []), 0, 0),
  (35, (.invokevirtual 28, 38, 68, 2, .null, []), 4, 38),
  (38, (.ifCond .eq 7, 41, 45, 0, .null, []), 0, 0),
  (41, (.iconst 0, 42, 0, 0, .int 0, []), 0, 0),
  (42, (.goto 4, 45, 46, 0, .null, []), 0, 0),
  (45, (.iconst 2, 46, 0, 0, .int 2, []), 0, 0),
  (46, (.ireturn, 47, 0, 0, .null, []), 0, 0)]
/-- ThreadBank$TextReader.append(I)Z -/
def qc_75 : List qm_E := [
  (0, (.aload_n 0, 1, 0, 0, .null, []), 0, 0),
  (1, (.getfield 22, 4, 3, 2, .null, []), 1, 83),
  (4, (.ifCond .lt 13, 7, 17, 0, .null, []), 0, 0),
  (7, (.aload_n 0, 8, 0, 0, .null, []), 0, 0),
  (8, (.getfield 22, 11, 3, 2, .null, []), 1, 83),
  (11, (.sipush 160, 14, 0, 0, .int 160, []), 0, 0),
  (14, (.if_icmp .lt 5, 17, 19, 0, .null, []), 0, 0),
  (17, (.iconst 0, 18, 0, 0, .int 0, []), 0, 0),
  (18, (.ireturn, 19, 0, 0, .null, []), 0, 0),
  (19, (.aload_n 0, 20, 0, 0, .null, []), 0, 0),
  (20, (.getfield 9, 23, 3, 0, .null, []), 1, 80),
  (23, (.aload_n 0, 24, 0, 0, .null, []), 0, 0),
  (24, (.getfield 22, 27, 3, 2, .null, []), 1, 83),
  (27, (.iload_n 1, 28, 1, 0, .null, []), 0, 0),
  (28, (.i2b, 29, 0, 0, .null, []), 0, 0),
  (29, (.bastore, 30, 0, 0, .null, []), 0, 0),
  (30, (.aload_n 0, 31, 0, 0, .null, []), 0, 0),
  (31, (.dup, 32, 0, 0, .null, []), 0, 0),
  (32, (.getfield 22, 35, 3, 2, .null, []), 1, 83),
  (35, (.iconst 1, 36, 0, 0, .int 1, []), 0, 0),
  (36, (.iadd, 37, 0, 0, .null, []), 0, 0),
  (37, (.putfield 22, 40, 3, 2, .null, []), 1, 83),
  (40, (.iconst 1, 41, 0, 0, .int 1, []), 0, 0),
  (41, (.ireturn, 42, 0, 0, .null, []), 0, 0)]
/-- ThreadBank$TextReader.readAll()Z -/
def qc_76 : List qm_E := [
  (0, (.aload_n 0, 1, 0, 0, .null, []), 0, 0),
  (1, (.invokevirtual 26, 4, 77, 0, .null, []), 1, 202),
  (4, (.iconst 0, 5, 0, 0, .int 0, []), 0, 0),
  (5, (.istore_n 1, 6, 1, 0, .null, []), 0, 0),
  (6, (.iload_n 1, 7, 1, 0, .null, []), 0, 0),
  (7, (.sipush 160, 10, 0, 0, .int 160, []), 0, 0),
  (10, (.if_icmp .gt 49, 13, 59, 0, .null, []), 0, 0),
  (13, (.aload_n 0, 14, 0, 0, .null, []), 0, 0),
  (14, (.invokevirtual 29, 17, 85, 0, .null, []), 1, 210),
  (17, (.ifCond .ne 5, 20, 22, 0, .null, []), 0, 0),
  (20, (.iconst 0, 21, 0, 0, .int 0, []), 0, 0),
  (21, (.ireturn, 22, 0, 0, .null, []), 0, 0),
  (22, (.aload_n 0, 23, 0, 0, .null, []), 0, 0),
  (23, (.getfield 33, 26, 3, 7, .null, []), 1, 92),
  (26, (.ifCond .ne 8, 29, 34, 0, .null, []), 0, 0),
  (29, (.aload_n 0, 30, 0, 0, .null, []), 0, 0),
  (30, (.invokevirtual 36, 33, 84, 0, .null, []), 1, 229),
  (33, (.ireturn, 34, 0, 0, .null, []), 0, 0),
  (34, (.aload_n 0, 35, 0, 0, .null, []), 0, 0),
  (35, (.invokevirtual 39, 38, 79, 0, .null, []), 2, 33),
  (38, (.ifCond .ne 5, 41, 43, 0, .null, []), 0, 0),
  (41, (.iconst 0, 42, 0, 0, .int 0, []), 0, 0),
  (42, (.ireturn, 43, 0, 0, .null, []), 0, 0),
  (43, (.aload_n 0, 44, 0, 0, .null, []), 0, 0),
  (44, (.dup, 45, 0, 0, .null, []), 0, 0),
  (45, (.getfield 42, 48, 3, 3, .null, []), 1, 85),
  (48, (.iconst 1, 49, 0, 0, .int 1, []), 0, 0),
  (49, (.iadd, 50, 0, 0, .null, []), 0, 0),
  (50, (.putfield 42, 53, 3, 3, .null, []), 1, 85),
  (53, (.iinc 1 1, 56, 1, 0, .int 1, []), 0, 0),
  (56, (.goto (-50), 59, 6, 0, .null, []), 0, 0),
  (59, (.iconst 0, 60, 0, 0, .int 0, []), 0, 0),
  (60, (.ireturn, 61, 0, 0, .null, []), 0, 0)]
/-- ThreadBank$TextReader.begin()V -/
def qc_77 : List qm_E := [
  (0, (.aload_n 0, 1, 0, 0, .null, []), 0, 0),
  (1, (.getfield 18, 4, 3, 1, .null, []), 1, 81),
  (4, (.invokevirtual 45, 7, 22, 0, .null, []), 1, 206),
  (7, (.aload_n 0, 8, 0, 0, .null, []), 0, 0),
  (8, (.iconst 0, 9, 0, 0, .int 0, []), 0, 0),
  (9, (.putfield 42, 12, 3, 3, .null, []), 1, 85),
  (12, (.aload_n 0, 13, 0, 0, .null, []), 0, 0),
  (13, (.iconst 0, 14, 0, 0, .int 0, []), 0, 0),
  (14, (.putfield 48, 17, 3, 4, .null, []), 1, 87),
  (17, (.aload_n 0, 18, 0, 0, .null, []), 0, 0),
  (18, (.iconst 0, 19, 0, 0, .int 0, []), 0, 0),
  (19, (.putfield 51, 22, 3, 5, .null, []), 1, 89),
  (22, (.aload_n 0, 23, 0, 0, .null, []), 0, 0),
  (23, (.iconst 0, 24, 0, 0, .int 0, []), 0, 0),
  (24, (.putfield 54, 27, 3, 6, .null, []), 1, 91),
  (27, (.aload_n 0, 28, 0, 0, .null, []), 0, 0),
  (28, (.iconst 0, 29, 0, 0, .int 0, []), 0, 0),
  (29, (.putfield 57, 32, 3, 10, .null, []), 1, 95),
  (32, (.return_, 33, 0, 0, .null, []), 0, 0)]
/-- ThreadBank$TextReader.fail(II)Z -/
def qc_78 : List qm_E := [
  (0, (.aload_n 0, 1, 0, 0, .null, []), 0, 0),
  (1, (.iload_n 1, 2, 1, 0, .null, []), 0, 0),
  (2, (.putfield 48, 5, 3, 4, .null, []), 1, 87),
  (5, (.aload_n 0, 6, 0, 0, .null, []), 0, 0),
  (6, (.iload_n 2, 7, 2, 0, .null, []), 0, 0),
  (7, (.putfield 51, 10, 3, 5, .null, []), 1, 89),
  (10, (.iconst 0, 11, 0, 0, .int 0, []), 0, 0),
  (11, (.ireturn, 12, 0, 0, .null, []), 0, 0)]
/-- ThreadBank$TextReader.readLine()Z -/
def qc_79 : List qm_E := [
  (0, (.aload_n 0, 1, 0, 0, .null, []), 0, 0),
  (1, (.getfield 33, 4, 3, 7, .null, []), 1, 92),
  (4, (.iconst 1, 5, 0, 0, .int 1, []), 0, 0),
  (5, (.if_icmp .ne 10, 8, 15, 0, .null, []), 0, 0),
  (8, (.aload_n 0, 9, 0, 0, .null, []), 0, 0),
  (9, (.invokevirtual 61, 12, 88, 0, .null, []), 2, 37),
  (12, (.goto 5, 15, 17, 0, .null, []), 0, 0),
  (15, (.bipush (-4), 17, 0, 0, .int (-4 : Int32), []), 0, 0),
  (17, (.istore_n 1, 18, 1, 0, .null, []), 0, 0),
  (18, (.iload_n 1, 19, 1, 0, .null, []), 0, 0),
  (19, (.lookupswitch 83 #[(-4, 33), (4, 43), (5, 63)], 52, 102, 0, .null, [((-4 : Int32), 52), (4, 62), (5, 82)]), 0, 0),
  (52, (.aload_n 0, 53, 0, 0, .null, []), 0, 0),
  (53, (.iconst 2, 54, 0, 0, .int 2, []), 0, 0),
  (54, (.aload_n 0, 55, 0, 0, .null, []), 0, 0),
  (55, (.getfield 65, 58, 3, 8, .null, []), 1, 93),
  (58, (.invokevirtual 68, 61, 78, 2, .null, []), 1, 225),
  (61, (.ireturn, 62, 0, 0, .null, []), 0, 0),
  (62, (.aload_n 0, 63, 0, 0, .null, []), 0, 0),
  (63, (.invokevirtual 72, 66, 80, 0, .null, []), 2, 99),
  (66, (.ifCond .eq 14, 69, 80, 0, .null, []), 0, 0),
  (69, (.aload_n 0, 70, 0, 0, .null, []), 0, 0),
  (70, (.invokevirtual 75, 73, 83, 0, .null, []), 2, 107),
  (73, (.ifCond .eq 7, 76, 80, 0, .null, []), 0, 0),
  (76, (.iconst 1, 77, 0, 0, .int 1, []), 0, 0),
  (77, (.goto 4, 80, 81, 0, .null, []), 0, 0),
  (80, (.iconst 0, 81, 0, 0, .int 0, []), 0, 0),
  (81, (.ireturn, 82, 0, 0, .null, []), 0, 0),
  (82, (.aload_n 0, 83, 0, 0, .null, []), 0, 0),
  (83, (.invokevirtual 78, 86, 81, 0, .null, []), 2, 111),
  (86, (.ifCond .eq 14, 89, 100, 0, .null, []), 0, 0),
  (89, (.aload_n 0, 90, 0, 0, .null, []), 0, 0),
  (90, (.invokevirtual 75, 93, 83, 0, .null, []), 2, 107),
  (93, (.ifCond .eq 7, 96, 100, 0, .null, []), 0, 0),
  (96, (.iconst 1, 97, 0, 0, .int 1, []), 0, 0),
  (97, (.goto 4, 100, 101, 0, .null, []), 0, 0),
  (100, (.iconst 0, 101, 0, 0, .int 0, []), 0, 0),
  (101, (.ireturn, 102, 0, 0, .null, []), 0, 0),
  (102, (.aload_n 0, 103, 0, 0, .null, []), 0, 0),
  (103, (.getfield 18, 106, 3, 1, .null, []), 1, 81),
  (106, (.iload_n 1, 107, 1, 0, .null, []), 0, 0),
  (107, (.invokevirtual 81, 110, 44, 1, .null, []), 2, 124),
  (110, (.ifCond .ne 15, 113, 125, 0, .null, []), 0, 0),
  (113, (.aload_n 0, 114, 0, 0, .null, []), 0, 0),
  (114, (.iconst 5, 115, 0, 0, .int 5, []), 0, 0),
  (115, (.aload_n 0, 116, 0, 0, .null, []), 0, 0),
  (116, (.getfield 65, 119, 3, 8, .null, []), 1, 93),
  (119, (.invokevirtual 68, 122, 78, 2, .null, []), 1, 225),
  (122, (.ifCond .eq 14, 125, 136, 0, .null, []), 0, 0),
  (125, (.aload_n 0, 126, 0, 0, .null, []), 0, 0),
  (126, (.invokevirtual 75, 129, 83, 0, .null, []), 2, 107),
  (129, (.ifCond .eq 7, 132, 136, 0, .null, []), 0, 0),
  (132, (.iconst 1, 133, 0, 0, .int 1, []), 0, 0),
  (133, (.goto 4, 136, 137, 0, .null, []), 0, 0),
  (136, (.iconst 0, 137, 0, 0, .int 0, []), 0, 0),
  (137, (.ireturn, 138, 0, 0, .null, []), 0, 0)]
/-- ThreadBank$TextReader.readDay()Z -/
def qc_80 : List qm_E := [
  (0, (.aload_n 0, 1, 0, 0, .null, []), 0, 0),
  (1, (.getfield 57, 4, 3, 10, .null, []), 1, 95),
  (4, (.ifCond .eq 13, 7, 17, 0, .null, []), 0, 0),
  (7, (.aload_n 0, 8, 0, 0, .null, []), 0, 0),
  (8, (.iconst 4, 9, 0, 0, .int 4, []), 0, 0),
  (9, (.aload_n 0, 10, 0, 0, .null, []), 0, 0),
  (10, (.getfield 65, 13, 3, 8, .null, []), 1, 93),
  (13, (.invokevirtual 68, 16, 78, 2, .null, []), 1, 225),
  (16, (.ireturn, 17, 0, 0, .null, []), 0, 0),
  (17, (.aload_n 0, 18, 0, 0, .null, []), 0, 0),
  (18, (.invokevirtual 85, 21, 82, 0, .null, []), 2, 103),
  (21, (.ifCond .ne 5, 24, 26, 0, .null, []), 0, 0),
  (24, (.iconst 0, 25, 0, 0, .int 0, []), 0, 0),
  (25, (.ireturn, 26, 0, 0, .null, []), 0, 0),
  (26, (.aload_n 0, 27, 0, 0, .null, []), 0, 0),
  (27, (.getfield 88, 30, 3, 9, .null, []), 1, 94),
  (30, (.bipush 9, 32, 0, 0, .int 9, []), 0, 0),
  (32, (.if_icmp .le 13, 35, 45, 0, .null, []), 0, 0),
  (35, (.aload_n 0, 36, 0, 0, .null, []), 0, 0),
  (36, (.iconst 3, 37, 0, 0, .int 3, []), 0, 0),
  (37, (.aload_n 0, 38, 0, 0, .null, []), 0, 0),
  (38, (.getfield 65, 41, 3, 8, .null, []), 1, 93),
  (41, (.invokevirtual 68, 44, 78, 2, .null, []), 1, 225),
  (44, (.ireturn, 45, 0, 0, .null, []), 0, 0),
  (45, (.aload_n 0, 46, 0, 0, .null, []), 0, 0),
  (46, (.iconst 1, 47, 0, 0, .int 1, []), 0, 0),
  (47, (.putfield 57, 50, 3, 10, .null, []), 1, 95),
  (50, (.aload_n 0, 51, 0, 0, .null, []), 0, 0),
  (51, (.getfield 18, 54, 3, 1, .null, []), 1, 81),
  (54, (.aload_n 0, 55, 0, 0, .null, []), 0, 0),
  (55, (.getfield 88, 58, 3, 9, .null, []), 1, 94),
  (58, (.putfield 91, 61, 1, 8, .null, []), 1, 47),
  (61, (.iconst 1, 62, 0, 0, .int 1, []), 0, 0),
  (62, (.ireturn, 63, 0, 0, .null, []), 0, 0)]
/-- ThreadBank$TextReader.readTie()Z -/
def qc_81 : List qm_E := [
  (0, (.aload_n 0, 1, 0, 0, .null, []), 0, 0),
  (1, (.getfield 18, 4, 3, 1, .null, []), 1, 81),
  (4, (.getfield 94, 7, 1, 7, .null, []), 1, 44),
  (7, (.bipush 10, 9, 0, 0, .int 10, []), 0, 0),
  (9, (.if_icmp .lt 13, 12, 22, 0, .null, []), 0, 0),
  (12, (.aload_n 0, 13, 0, 0, .null, []), 0, 0),
  (13, (.iconst 5, 14, 0, 0, .int 5, []), 0, 0),
  (14, (.aload_n 0, 15, 0, 0, .null, []), 0, 0),
  (15, (.getfield 65, 18, 3, 8, .null, []), 1, 93),
  (18, (.invokevirtual 68, 21, 78, 2, .null, []), 1, 225),
  (21, (.ireturn, 22, 0, 0, .null, []), 0, 0),
  (22, (.aload_n 0, 23, 0, 0, .null, []), 0, 0),
  (23, (.invokevirtual 85, 26, 82, 0, .null, []), 2, 103),
  (26, (.ifCond .ne 5, 29, 31, 0, .null, []), 0, 0),
  (29, (.iconst 0, 30, 0, 0, .int 0, []), 0, 0),
  (30, (.ireturn, 31, 0, 0, .null, []), 0, 0),
  (31, (.aload_n 0, 32, 0, 0, .null, []), 0, 0),
  (32, (.getfield 88, 35, 3, 9, .null, []), 1, 94),
  (35, (.istore_n 1, 36, 1, 0, .null, []), 0, 0),
  (36, (.iload_n 1, 37, 1, 0, .null, []), 0, 0),
  (37, (.iconst 4, 38, 0, 0, .int 4, []), 0, 0),
  (38, (.invokestatic 97, 41, 24, 2, .null, []), 2, 115),
  (41, (.ifCond .ne 13, 44, 54, 0, .null, []), 0, 0),
  (44, (.aload_n 0, 45, 0, 0, .null, []), 0, 0),
  (45, (.iconst 3, 46, 0, 0, .int 3, []), 0, 0),
  (46, (.aload_n 0, 47, 0, 0, .null, []), 0, 0),
  (47, (.getfield 65, 50, 3, 8, .null, []), 1, 93),
  (50, (.invokevirtual 68, 53, 78, 2, .null, []), 1, 225),
  (53, (.ireturn, 54, 0, 0, .null, []), 0, 0),
  (54, (.aload_n 0, 55, 0, 0, .null, []), 0, 0),
  (55, (.invokevirtual 85, 58, 82, 0, .null, []), 2, 103),
  (58, (.ifCond .ne 5, 61, 63, 0, .null, []), 0, 0),
  (61, (.iconst 0, 62, 0, 0, .int 0, []), 0, 0),
  (62, (.ireturn, 63, 0, 0, .null, []), 0, 0),
  (63, (.aload_n 0, 64, 0, 0, .null, []), 0, 0),
  (64, (.getfield 88, 67, 3, 9, .null, []), 1, 94),
  (67, (.istore_n 2, 68, 2, 0, .null, []), 0, 0),
  (68, (.iload_n 2, 69, 2, 0, .null, []), 0, 0),
  (69, (.iconst 4, 70, 0, 0, .int 4, []), 0, 0),
  (70, (.invokestatic 100, 73, 25, 2, .null, []), 2, 116),
  (73, (.ifCond .ne 13, 76, 86, 0, .null, []), 0, 0),
  (76, (.aload_n 0, 77, 0, 0, .null, []), 0, 0),
  (77, (.iconst 3, 78, 0, 0, .int 3, []), 0, 0),
  (78, (.aload_n 0, 79, 0, 0, .null, []), 0, 0),
  (79, (.getfield 65, 82, 3, 8, .null, []), 1, 93),
  (82, (.invokevirtual 68, 85, 78, 2, .null, []), 1, 225),
  (85, (.ireturn, 86, 0, 0, .null, []), 0, 0),
  (86, (.aload_n 0, 87, 0, 0, .null, []), 0, 0),
  (87, (.invokevirtual 85, 90, 82, 0, .null, []), 2, 103),
  (90, (.ifCond .ne 5, 93, 95, 0, .null, []), 0, 0),
  (93, (.iconst 0, 94, 0, 0, .int 0, []), 0, 0),
  (94, (.ireturn, 95, 0, 0, .null, []), 0, 0),
  (95, (.aload_n 0, 96, 0, 0, .null, []), 0, 0),
  (96, (.getfield 88, 99, 3, 9, .null, []), 1, 94),
  (99, (.invokestatic 103, 102, 26, 1, .null, []), 2, 117),
  (102, (.ifCond .eq 19, 105, 121, 0, .null, []), 0, 0),
  (105, (.aload_n 0, 106, 0, 0, .null, []), 0, 0),
  (106, (.getfield 18, 109, 3, 1, .null, []), 1, 81),
  (109, (.iload_n 1, 110, 1, 0, .null, []), 0, 0),
  (110, (.iload_n 2, 111, 2, 0, .null, []), 0, 0),
  (111, (.aload_n 0, 112, 0, 0, .null, []), 0, 0),
  (112, (.getfield 88, 115, 3, 9, .null, []), 1, 94),
  (115, (.invokevirtual 106, 118, 45, 3, .null, []), 2, 120),
  (118, (.goto 12, 121, 130, 0, .null, []), 0, 0),
  (121, (.aload_n 0, 122, 0, 0, .null, []), 0, 0),
  (122, (.iconst 3, 123, 0, 0, .int 3, []), 0, 0),
  (123, (.aload_n 0, 124, 0, 0, .null, []), 0, 0),
  (124, (.getfield 65, 127, 3, 8, .null, []), 1, 93),
  (127, (.invokevirtual 68, 130, 78, 2, .null, []), 1, 225),
  (130, (.ireturn, 131, 0, 0, .null, []), 0, 0)]
/-- ThreadBank$TextReader.readNumber()Z -/
def qc_82 : List qm_E := [
  (0, (.aload_n 0, 1, 0, 0, .null, []), 0, 0),
  (1, (.invokevirtual 29, 4, 85, 0, .null, []), 1, 210),
  (4, (.ifCond .ne 5, 7, 9, 0, .null, []), 0, 0),
  (7, (.iconst 0, 8, 0, 0, .int 0, []), 0, 0),
  (8, (.ireturn, 9, 0, 0, .null, []), 0, 0),
  (9, (.aload_n 0, 10, 0, 0, .null, []), 0, 0),
  (10, (.getfield 33, 13, 3, 7, .null, []), 1, 92),
  (13, (.iconst 2, 14, 0, 0, .int 2, []), 0, 0),
  (14, (.if_icmp .eq 13, 17, 27, 0, .null, []), 0, 0),
  (17, (.aload_n 0, 18, 0, 0, .null, []), 0, 0),
  (18, (.iconst 2, 19, 0, 0, .int 2, []), 0, 0),
  (19, (.aload_n 0, 20, 0, 0, .null, []), 0, 0),
  (20, (.getfield 65, 23, 3, 8, .null, []), 1, 93),
  (23, (.invokevirtual 68, 26, 78, 2, .null, []), 1, 225),
  (26, (.ireturn, 27, 0, 0, .null, []), 0, 0),
  (27, (.aload_n 0, 28, 0, 0, .null, []), 0, 0),
  (28, (.iconst 0, 29, 0, 0, .int 0, []), 0, 0),
  (29, (.putfield 88, 32, 3, 9, .null, []), 1, 94),
  (32, (.aload_n 0, 33, 0, 0, .null, []), 0, 0),
  (33, (.getfield 65, 36, 3, 8, .null, []), 1, 93),
  (36, (.istore_n 1, 37, 1, 0, .null, []), 0, 0),
  (37, (.iload_n 1, 38, 1, 0, .null, []), 0, 0),
  (38, (.aload_n 0, 39, 0, 0, .null, []), 0, 0),
  (39, (.getfield 54, 42, 3, 6, .null, []), 1, 91),
  (42, (.if_icmp .ge 29, 45, 71, 0, .null, []), 0, 0),
  (45, (.aload_n 0, 46, 0, 0, .null, []), 0, 0),
  (46, (.bipush 10, 48, 0, 0, .int 10, []), 0, 0),
  (48, (.aload_n 0, 49, 0, 0, .null, []), 0, 0),
  (49, (.getfield 88, 52, 3, 9, .null, []), 1, 94),
  (52, (.imul, 53, 0, 0, .null, []), 0, 0),
  (53, (.aload_n 0, 54, 0, 0, .null, []), 0, 0),
  (54, (.iload_n 1, 55, 1, 0, .null, []), 0, 0),
  (55, (.invokevirtual 110, 58, 87, 1, .null, []), 1, 221),
  (58, (.iadd, 59, 0, 0, .null, []), 0, 0),
  (59, (.bipush 48, 61, 0, 0, .int 48, []), 0, 0),
  (61, (.isub, 62, 0, 0, .null, []), 0, 0),
  (62, (.putfield 88, 65, 3, 9, .null, []), 1, 94),
  (65, (.iinc 1 1, 68, 1, 0, .int 1, []), 0, 0),
  (68, (.goto (-31), 71, 37, 0, .null, []), 0, 0),
  (71, (.iconst 1, 72, 0, 0, .int 1, []), 0, 0),
  (72, (.ireturn, 73, 0, 0, .null, []), 0, 0)]
/-- ThreadBank$TextReader.readStop()Z -/
def qc_83 : List qm_E := [
  (0, (.aload_n 0, 1, 0, 0, .null, []), 0, 0),
  (1, (.invokevirtual 29, 4, 85, 0, .null, []), 1, 210),
  (4, (.ifCond .eq 27, 7, 31, 0, .null, []), 0, 0),
  (7, (.aload_n 0, 8, 0, 0, .null, []), 0, 0),
  (8, (.getfield 33, 11, 3, 7, .null, []), 1, 92),
  (11, (.iconst 3, 12, 0, 0, .int 3, []), 0, 0),
  (12, (.if_icmp .eq 15, 15, 27, 0, .null, []), 0, 0),
  (15, (.aload_n 0, 16, 0, 0, .null, []), 0, 0),
  (16, (.iconst 2, 17, 0, 0, .int 2, []), 0, 0),
  (17, (.aload_n 0, 18, 0, 0, .null, []), 0, 0),
  (18, (.getfield 65, 21, 3, 8, .null, []), 1, 93),
  (21, (.invokevirtual 68, 24, 78, 2, .null, []), 1, 225),
  (24, (.ifCond .eq 7, 27, 31, 0, .null, []), 0, 0),
  (27, (.iconst 1, 28, 0, 0, .int 1, []), 0, 0),
  (28, (.goto 4, 31, 32, 0, .null, []), 0, 0),
  (31, (.iconst 0, 32, 0, 0, .int 0, []), 0, 0),
  (32, (.ireturn, 33, 0, 0, .null, []), 0, 0)]
/-- ThreadBank$TextReader.isWhole()Z -/
def qc_84 : List qm_E := [
  (0, (.iconst 0, 1, 0, 0, .int 0, []), 0, 0),
  (1, (.istore_n 1, 2, 1, 0, .null, []), 0, 0),
  (2, (.iload_n 1, 3, 1, 0, .null, []), 0, 0),
  (3, (.aload_n 0, 4, 0, 0, .null, []), 0, 0),
  (4, (.getfield 18, 7, 3, 1, .null, []), 1, 81),
  (7, (.getfield 94, 10, 1, 7, .null, []), 1, 44),
  (10, (.if_icmp .ge 58, 13, 68, 0, .null, []), 0, 0),
  (13, (.aload_n 0, 14, 0, 0, .null, []), 0, 0),
  (14, (.getfield 18, 17, 3, 1, .null, []), 1, 81),
  (17, (.aload_n 0, 18, 0, 0, .null, []), 0, 0),
  (18, (.getfield 18, 21, 3, 1, .null, []), 1, 81),
  (21, (.getfield 114, 24, 1, 1, .null, []), 1, 32),
  (24, (.iload_n 1, 25, 1, 0, .null, []), 0, 0),
  (25, (.iaload, 26, 0, 0, .null, []), 0, 0),
  (26, (.invokevirtual 118, 29, 30, 1, .null, []), 1, 233),
  (29, (.ifCond .eq 22, 32, 51, 0, .null, []), 0, 0),
  (32, (.aload_n 0, 33, 0, 0, .null, []), 0, 0),
  (33, (.getfield 18, 36, 3, 1, .null, []), 1, 81),
  (36, (.aload_n 0, 37, 0, 0, .null, []), 0, 0),
  (37, (.getfield 18, 40, 3, 1, .null, []), 1, 81),
  (40, (.getfield 121, 43, 1, 2, .null, []), 1, 35),
  (43, (.iload_n 1, 44, 1, 0, .null, []), 0, 0),
  (44, (.iaload, 45, 0, 0, .null, []), 0, 0),
  (45, (.invokevirtual 124, 48, 31, 1, .null, []), 2, 0),
  (48, (.ifCond .ne 14, 51, 62, 0, .null, []), 0, 0),
  (51, (.aload_n 0, 52, 0, 0, .null, []), 0, 0),
  (52, (.bipush 6, 54, 0, 0, .int 6, []), 0, 0),
  (54, (.aload_n 0, 55, 0, 0, .null, []), 0, 0),
  (55, (.getfield 22, 58, 3, 2, .null, []), 1, 83),
  (58, (.invokevirtual 68, 61, 78, 2, .null, []), 1, 225),
  (61, (.ireturn, 62, 0, 0, .null, []), 0, 0),
  (62, (.iinc 1 1, 65, 1, 0, .int 1, []), 0, 0),
  (65, (.goto (-63), 68, 2, 0, .null, []), 0, 0),
  (68, (.iconst 0, 69, 0, 0, .int 0, []), 0, 0),
  (69, (.istore_n 1, 70, 1, 0, .null, []), 0, 0),
  (70, (.iload_n 1, 71, 1, 0, .null, []), 0, 0),
  (71, (.aload_n 0, 72, 0, 0, .null, []), 0, 0),
  (72, (.getfield 18, 75, 3, 1, .null, []), 1, 81),
  (75, (.getfield 94, 78, 1, 7, .null, []), 1, 44),
  (78, (.if_icmp .ge 39, 81, 117, 0, .null, []), 0, 0),
  (81, (.aload_n 0, 82, 0, 0, .null, []), 0, 0),
  (82, (.getfield 18, 85, 3, 1, .null, []), 1, 81),
  (85, (.aload_n 0, 86, 0, 0, .null, []), 0, 0),
  (86, (.getfield 18, 89, 3, 1, .null, []), 1, 81),
  (89, (.getfield 114, 92, 1, 1, .null, []), 1, 32),
  (92, (.iload_n 1, 93, 1, 0, .null, []), 0, 0),
  (93, (.iaload, 94, 0, 0, .null, []), 0, 0),
  (94, (.invokevirtual 127, 97, 40, 1, .null, []), 2, 7),
  (97, (.ifCond .ge 14, 100, 111, 0, .null, []), 0, 0),
  (100, (.aload_n 0, 101, 0, 0, .null, []), 0, 0),
  (101, (.bipush 7, 103, 0, 0, .int 7, []), 0, 0),
  (103, (.aload_n 0, 104, 0, 0, .null, []), 0, 0),
  (104, (.getfield 22, 107, 3, 2, .null, []), 1, 83),
  (107, (.invokevirtual 68, 110, 78, 2, .null, []), 1, 225),
  (110, (.ireturn, 111, 0, 0, .null, []), 0, 0),
  (111, (.iinc 1 1, 114, 1, 0, .int 1, []), 0, 0),
  (114, (.goto (-44), 117, 70, 0, .null, []), 0, 0),
  (117, (.iconst 1, 118, 0, 0, .int 1, []), 0, 0),
  (118, (.ireturn, 119, 0, 0, .null, []), 0, 0)]
/-- ThreadBank$TextReader.nextToken()Z -/
def qc_85 : List qm_E := [
  (0, (.aload_n 0, 1, 0, 0, .null, []), 0, 0),
  (1, (.aload_n 0, 2, 0, 0, .null, []), 0, 0),
  (2, (.aload_n 0, 3, 0, 0, .null, []), 0, 0),
  (3, (.getfield 54, 6, 3, 6, .null, []), 1, 91),
  (6, (.bipush 32, 8, 0, 0, .int 32, []), 0, 0),
  (8, (.bipush 32, 10, 0, 0, .int 32, []), 0, 0),
  (10, (.invokevirtual 130, 13, 86, 3, .null, []), 1, 214),
  (13, (.putfield 65, 16, 3, 8, .null, []), 1, 93),
  (16, (.aload_n 0, 17, 0, 0, .null, []), 0, 0),
  (17, (.aload_n 0, 18, 0, 0, .null, []), 0, 0),
  (18, (.getfield 65, 21, 3, 8, .null, []), 1, 93),
  (21, (.putfield 54, 24, 3, 6, .null, []), 1, 91),
  (24, (.aload_n 0, 25, 0, 0, .null, []), 0, 0),
  (25, (.getfield 65, 28, 3, 8, .null, []), 1, 93),
  (28, (.aload_n 0, 29, 0, 0, .null, []), 0, 0),
  (29, (.getfield 22, 32, 3, 2, .null, []), 1, 83),
  (32, (.if_icmp .lt 10, 35, 42, 0, .null, []), 0, 0),
  (35, (.aload_n 0, 36, 0, 0, .null, []), 0, 0),
  (36, (.iconst 0, 37, 0, 0, .int 0, []), 0, 0),
  (37, (.putfield 33, 40, 3, 7, .null, []), 1, 92),
  (40, (.iconst 1, 41, 0, 0, .int 1, []), 0, 0),
  (41, (.ireturn, 42, 0, 0, .null, []), 0, 0),
  (42, (.aload_n 0, 43, 0, 0, .null, []), 0, 0),
  (43, (.aload_n 0, 44, 0, 0, .null, []), 0, 0),
  (44, (.getfield 65, 47, 3, 8, .null, []), 1, 93),
  (47, (.invokevirtual 110, 50, 87, 1, .null, []), 1, 221),
  (50, (.bipush 59, 52, 0, 0, .int 59, []), 0, 0),
  (52, (.if_icmp .ne 20, 55, 72, 0, .null, []), 0, 0),
  (55, (.aload_n 0, 56, 0, 0, .null, []), 0, 0),
  (56, (.iconst 3, 57, 0, 0, .int 3, []), 0, 0),
  (57, (.putfield 33, 60, 3, 7, .null, []), 1, 92),
  (60, (.aload_n 0, 61, 0, 0, .null, []), 0, 0),
  (61, (.dup, 62, 0, 0, .null, []), 0, 0),
  (62, (.getfield 54, 65, 3, 6, .null, []), 1, 91),
  (65, (.iconst 1, 66, 0, 0, .int 1, []), 0, 0),
  (66, (.iadd, 67, 0, 0, .null, []), 0, 0),
  (67, (.putfield 54, 70, 3, 6, .null, []), 1, 91),
  (70, (.iconst 1, 71, 0, 0, .int 1, []), 0, 0),
  (71, (.ireturn, 72, 0, 0, .null, []), 0, 0),
  (72, (.aload_n 0, 73, 0, 0, .null, []), 0, 0),
  (73, (.aload_n 0, 74, 0, 0, .null, []), 0, 0),
  (74, (.aload_n 0, 75, 0, 0, .null, []), 0, 0),
  (75, (.getfield 65, 78, 3, 8, .null, []), 1, 93),
  (78, (.bipush 97, 80, 0, 0, .int 97, []), 0, 0),
  (80, (.bipush 122, 82, 0, 0, .int 122, []), 0, 0),
  (82, (.invokevirtual 130, 85, 86, 3, .null, []), 1, 214),
  (85, (.putfield 54, 88, 3, 6, .null, []), 1, 91),
  (88, (.aload_n 0, 89, 0, 0, .null, []), 0, 0),
  (89, (.getfield 54, 92, 3, 6, .null, []), 1, 91),
  (92, (.aload_n 0, 93, 0, 0, .null, []), 0, 0),
  (93, (.getfield 65, 96, 3, 8, .null, []), 1, 93),
  (96, (.if_icmp .le 10, 99, 106, 0, .null, []), 0, 0),
  (99, (.aload_n 0, 100, 0, 0, .null, []), 0, 0),
  (100, (.iconst 1, 101, 0, 0, .int 1, []), 0, 0),
  (101, (.putfield 33, 104, 3, 7, .null, []), 1, 92),
  (104, (.iconst 1, 105, 0, 0, .int 1, []), 0, 0),
  (105, (.ireturn, 106, 0, 0, .null, []), 0, 0),
  (106, (.aload_n 0, 107, 0, 0, .null, []), 0, 0),
  (107, (.aload_n 0, 108, 0, 0, .null, []), 0, 0),
  (108, (.aload_n 0, 109, 0, 0, .null, []), 0, 0),
  (109, (.getfield 65, 112, 3, 8, .null, []), 1, 93),
  (112, (.bipush 48, 114, 0, 0, .int 48, []), 0, 0),
  (114, (.bipush 57, 116, 0, 0, .int 57, []), 0, 0),
  (116, (.invokevirtual 130, 119, 86, 3, .null, []), 1, 214),
  (119, (.putfield 54, 122, 3, 6, .null, []), 1, 91),
  (122, (.aload_n 0, 123, 0, 0, .null, []), 0, 0),
  (123, (.iconst 2, 124, 0, 0, .int 2, []), 0, 0),
  (124, (.putfield 33, 127, 3, 7, .null, []), 1, 92),
  (127, (.aload_n 0, 128, 0, 0, .null, []), 0, 0),
  (128, (.getfield 54, 131, 3, 6, .null, []), 1, 91),
  (131, (.aload_n 0, 132, 0, 0, .null, []), 0, 0),
  (132, (.getfield 65, 135, 3, 8, .null, []), 1, 93),
  (135, (.if_icmp .le 16, 138, 151, 0, .null, []), 0, 0),
  (138, (.aload_n 0, 139, 0, 0, .null, []), 0, 0),
  (139, (.getfield 54, 142, 3, 6, .null, []), 1, 91),
  (142, (.aload_n 0, 143, 0, 0, .null, []), 0, 0),
  (143, (.getfield 65, 146, 3, 8, .null, []), 1, 93),
  (146, (.iconst 2, 147, 0, 0, .int 2, []), 0, 0),
  (147, (.iadd, 148, 0, 0, .null, []), 0, 0),
  (148, (.if_icmp .le 15, 151, 163, 0, .null, []), 0, 0),
  (151, (.aload_n 0, 152, 0, 0, .null, []), 0, 0),
  (152, (.iconst 1, 153, 0, 0, .int 1, []), 0, 0),
  (153, (.aload_n 0, 154, 0, 0, .null, []), 0, 0),
  (154, (.getfield 65, 157, 3, 8, .null, []), 1, 93),
  (157, (.invokevirtual 68, 160, 78, 2, .null, []), 1, 225),
  (160, (.ifCond .eq 7, 163, 167, 0, .null, []), 0, 0),
  (163, (.iconst 1, 164, 0, 0, .int 1, []), 0, 0),
  (164, (.goto 4, 167, 168, 0, .null, []), 0, 0),
  (167, (.iconst 0, 168, 0, 0, .int 0, []), 0, 0),
  (168, (.ireturn, 169, 0, 0, .null, []), 0, 0)]
/-- ThreadBank$TextReader.endOfRun(III)I -/
def qc_86 : List qm_E := [
  (0, (.iconst 0, 1, 0, 0, .int 0, []), 0, 0),
  (1, (.iload_n 1, 2, 1, 0, .null, []), 0, 0),
  (2, (.invokestatic 134, 5, 1, 2, .null, []), 1, 218),
  (5, (.istore 4, 7, 4, 0, .null, []), 0, 0),
  (7, (.iload 4, 9, 4, 0, .null, []), 0, 0),
  (9, (.aload_n 0, 10, 0, 0, .null, []), 0, 0),
  (10, (.getfield 22, 13, 3, 2, .null, []), 1, 83),
  (13, (.if_icmp .ge 39, 16, 52, 0, .null, []), 0, 0),
  (16, (.iload 4, 18, 4, 0, .null, []), 0, 0),
  (18, (.sipush 160, 21, 0, 0, .int 160, []), 0, 0),
  (21, (.if_icmp .ge 31, 24, 52, 0, .null, []), 0, 0),
  (24, (.aload_n 0, 25, 0, 0, .null, []), 0, 0),
  (25, (.getfield 9, 28, 3, 0, .null, []), 1, 80),
  (28, (.iload 4, 30, 4, 0, .null, []), 0, 0),
  (30, (.baload, 31, 0, 0, .null, []), 0, 0),
  (31, (.iload_n 2, 32, 2, 0, .null, []), 0, 0),
  (32, (.if_icmp .lt 20, 35, 52, 0, .null, []), 0, 0),
  (35, (.aload_n 0, 36, 0, 0, .null, []), 0, 0),
  (36, (.getfield 9, 39, 3, 0, .null, []), 1, 80),
  (39, (.iload 4, 41, 4, 0, .null, []), 0, 0),
  (41, (.baload, 42, 0, 0, .null, []), 0, 0),
  (42, (.iload_n 3, 43, 3, 0, .null, []), 0, 0),
  (43, (.if_icmp .gt 9, 46, 52, 0, .null, []), 0, 0),
  (46, (.iinc 4 1, 49, 4, 0, .int 1, []), 0, 0),
  (49, (.goto (-42), 52, 7, 0, .null, []), 0, 0),
  (52, (.iload 4, 54, 4, 0, .null, []), 0, 0),
  (54, (.ireturn, 55, 0, 0, .null, []), 0, 0)]
/-- ThreadBank$TextReader.byteAt(I)I -/
def qc_87 : List qm_E := [
  (0, (.iload_n 1, 1, 1, 0, .null, []), 0, 0),
  (1, (.ifCond .lt 27, 4, 28, 0, .null, []), 0, 0),
  (4, (.iload_n 1, 5, 1, 0, .null, []), 0, 0),
  (5, (.aload_n 0, 6, 0, 0, .null, []), 0, 0),
  (6, (.getfield 22, 9, 3, 2, .null, []), 1, 83),
  (9, (.if_icmp .ge 19, 12, 28, 0, .null, []), 0, 0),
  (12, (.iload_n 1, 13, 1, 0, .null, []), 0, 0),
  (13, (.sipush 160, 16, 0, 0, .int 160, []), 0, 0),
  (16, (.if_icmp .ge 12, 19, 28, 0, .null, []), 0, 0),
  (19, (.aload_n 0, 20, 0, 0, .null, []), 0, 0),
  (20, (.getfield 9, 23, 3, 0, .null, []), 1, 80),
  (23, (.iload_n 1, 24, 1, 0, .null, []), 0, 0),
  (24, (.baload, 25, 0, 0, .null, []), 0, 0),
  (25, (.goto 4, 28, 29, 0, .null, []), 0, 0),
  (28, (.iconst (-1), 29, 0, 0, .int (-1 : Int32), []), 0, 0),
  (29, (.ireturn, 30, 0, 0, .null, []), 0, 0)]
/-- ThreadBank$TextReader.wordRead()I -/
def qc_88 : List qm_E := [
  (0, (.aload_n 0, 1, 0, 0, .null, []), 0, 0),
  (1, (.ldc 140, 3, 0, 0, .ref 110, []), 0, 0),
  (3, (.invokevirtual 142, 6, 89, 1, .null, []), 2, 42),
  (6, (.ifCond .eq 5, 9, 11, 0, .null, []), 0, 0),
  (9, (.iconst 0, 10, 0, 0, .int 0, []), 0, 0),
  (10, (.ireturn, 11, 0, 0, .null, []), 0, 0),
  (11, (.aload_n 0, 12, 0, 0, .null, []), 0, 0),
  (12, (.ldc 146, 14, 0, 0, .ref 111, []), 0, 0),
  (14, (.invokevirtual 142, 17, 89, 1, .null, []), 2, 42),
  (17, (.ifCond .eq 5, 20, 22, 0, .null, []), 0, 0),
  (20, (.iconst 1, 21, 0, 0, .int 1, []), 0, 0),
  (21, (.ireturn, 22, 0, 0, .null, []), 0, 0),
  (22, (.aload_n 0, 23, 0, 0, .null, []), 0, 0),
  (23, (.ldc 148, 25, 0, 0, .ref 112, []), 0, 0),
  (25, (.invokevirtual 142, 28, 89, 1, .null, []), 2, 42),
  (28, (.ifCond .eq 5, 31, 33, 0, .null, []), 0, 0),
  (31, (.iconst 2, 32, 0, 0, .int 2, []), 0, 0),
  (32, (.ireturn, 33, 0, 0, .null, []), 0, 0),
  (33, (.aload_n 0, 34, 0, 0, .null, []), 0, 0),
  (34, (.ldc 150, 36, 0, 0, .ref 113, []), 0, 0),
  (36, (.invokevirtual 142, 39, 89, 1, .null, []), 2, 42),
  (39, (.ifCond .eq 5, 42, 44, 0, .null, []), 0, 0),
  (42, (.iconst 3, 43, 0, 0, .int 3, []), 0, 0),
  (43, (.ireturn, 44, 0, 0, .null, []), 0, 0),
  (44, (.aload_n 0, 45, 0, 0, .null, []), 0, 0),
  (45, (.ldc 152, 47, 0, 0, .ref 114, []), 0, 0),
  (47, (.invokevirtual 142, 50, 89, 1, .null, []), 2, 42),
  (50, (.ifCond .eq 5, 53, 55, 0, .null, []), 0, 0),
  (53, (.iconst 4, 54, 0, 0, .int 4, []), 0, 0),
  (54, (.ireturn, 55, 0, 0, .null, []), 0, 0),
  (55, (.aload_n 0, 56, 0, 0, .null, []), 0, 0),
  (56, (.ldc 154, 58, 0, 0, .ref 115, []), 0, 0),
  (58, (.invokevirtual 142, 61, 89, 1, .null, []), 2, 42),
  (61, (.ifCond .eq 7, 64, 68, 0, .null, []), 0, 0),
  (64, (.iconst 5, 65, 0, 0, .int 5, []), 0, 0),
  (65, (.goto 5, 68, 70, 0, .null, []), 0, 0),
  (68, (.bipush (-4), 70, 0, 0, .int (-4 : Int32), []), 0, 0),
  (70, (.ireturn, 71, 0, 0, .null, []), 0, 0)]
/-- ThreadBank$TextReader.isWord(Ljava/lang/String;)Z -/
def qc_89 : List qm_E := [
  (0, (.aload_n 0, 1, 0, 0, .null, []), 0, 0),
  (1, (.getfield 54, 4, 3, 6, .null, []), 1, 91),
  (4, (.aload_n 0, 5, 0, 0, .null, []), 0, 0),
  (5, (.getfield 65, 8, 3, 8, .null, []), 1, 93),
  (8, (.isub, 9, 0, 0, .null, []), 0, 0),
  (9, (.aload_n 1, 10, 1, 0, .null, []), 0, 0),
  (10, (.invokevirtual 156, 13, 3, 0, .null, []), 2, 46),
  (13, (.if_icmp .eq 5, 16, 18, 0, .null, []), 0, 0),
  (16, (.iconst 0, 17, 0, 0, .int 0, []), 0, 0),
  (17, (.ireturn, 18, 0, 0, .null, []), 0, 0),
  (18, (.iconst 0, 19, 0, 0, .int 0, []), 0, 0),
  (19, (.istore_n 2, 20, 2, 0, .null, []), 0, 0),
  (20, (.iload_n 2, 21, 2, 0, .null, []), 0, 0),
  (21, (.aload_n 1, 22, 1, 0, .null, []), 0, 0),
  (22, (.invokevirtual 156, 25, 3, 0, .null, []), 2, 46),
  (25, (.if_icmp .ge 29, 28, 54, 0, .null, []), 0, 0),
  (28, (.aload_n 0, 29, 0, 0, .null, []), 0, 0),
  (29, (.aload_n 0, 30, 0, 0, .null, []), 0, 0),
  (30, (.getfield 65, 33, 3, 8, .null, []), 1, 93),
  (33, (.iload_n 2, 34, 2, 0, .null, []), 0, 0),
  (34, (.iadd, 35, 0, 0, .null, []), 0, 0),
  (35, (.invokevirtual 110, 38, 87, 1, .null, []), 1, 221),
  (38, (.aload_n 1, 39, 1, 0, .null, []), 0, 0),
  (39, (.iload_n 2, 40, 2, 0, .null, []), 0, 0),
  (40, (.invokevirtual 160, 43, 6, 1, .null, []), 2, 56),
  (43, (.if_icmp .eq 5, 46, 48, 0, .null, []), 0, 0),
  (46, (.iconst 0, 47, 0, 0, .int 0, []), 0, 0),
  (47, (.ireturn, 48, 0, 0, .null, []), 0, 0),
  (48, (.iinc 2 1, 51, 2, 0, .int 1, []), 0, 0),
  (51, (.goto (-31), 54, 20, 0, .null, []), 0, 0),
  (54, (.iconst 1, 55, 0, 0, .int 1, []), 0, 0),
  (55, (.ireturn, 56, 0, 0, .null, []), 0, 0)]
/-- ThreadBank.feed(I)I -/
def qc_90 : List qm_E := [
  (0, (.iload_n 1, 1, 1, 0, .null, []), 0, 0),
  (1, (.ifCond .lt 9, 4, 10, 0, .null, []), 0, 0),
  (4, (.iload_n 1, 5, 1, 0, .null, []), 0, 0),
  (5, (.bipush 127, 7, 0, 0, .int 127, []), 0, 0),
  (7, (.if_icmp .le 5, 10, 12, 0, .null, []), 0, 0),
  (10, (.iconst (-1), 11, 0, 0, .int (-1 : Int32), []), 0, 0),
  (11, (.ireturn, 12, 0, 0, .null, []), 0, 0),
  (12, (.aload_n 0, 13, 0, 0, .null, []), 0, 0),
  (13, (.getfield 29, 16, 4, 4, .null, []), 1, 158),
  (16, (.iload_n 1, 17, 1, 0, .null, []), 0, 0),
  (17, (.invokevirtual 51, 20, 75, 1, .null, []), 1, 186),
  (20, (.ifCond .eq 13, 23, 33, 0, .null, []), 0, 0),
  (23, (.aload_n 0, 24, 0, 0, .null, []), 0, 0),
  (24, (.getfield 29, 27, 4, 4, .null, []), 1, 158),
  (27, (.getfield 55, 30, 3, 2, .null, []), 1, 84),
  (30, (.goto 5, 33, 35, 0, .null, []), 0, 0),
  (33, (.bipush (-3), 35, 0, 0, .int (-3 : Int32), []), 0, 0),
  (35, (.ireturn, 36, 0, 0, .null, []), 0, 0)]
/-- ThreadBank.end(I)I -/
def qc_91 : List qm_E := [
  (0, (.iload_n 1, 1, 1, 0, .null, []), 0, 0),
  (1, (.ifCond .lt 14, 4, 15, 0, .null, []), 0, 0),
  (4, (.iload_n 1, 5, 1, 0, .null, []), 0, 0),
  (5, (.aload_n 0, 6, 0, 0, .null, []), 0, 0),
  (6, (.getfield 29, 9, 4, 4, .null, []), 1, 158),
  (9, (.getfield 55, 12, 3, 2, .null, []), 1, 84),
  (12, (.if_icmp .le 5, 15, 17, 0, .null, []), 0, 0),
  (15, (.iconst (-1), 16, 0, 0, .int (-1 : Int32), []), 0, 0),
  (16, (.ireturn, 17, 0, 0, .null, []), 0, 0),
  (17, (.aload_n 0, 18, 0, 0, .null, []), 0, 0),
  (18, (.getfield 29, 21, 4, 4, .null, []), 1, 158),
  (21, (.getfield 55, 24, 3, 2, .null, []), 1, 84),
  (24, (.istore_n 2, 25, 2, 0, .null, []), 0, 0),
  (25, (.aload_n 0, 26, 0, 0, .null, []), 0, 0),
  (26, (.getfield 29, 29, 4, 4, .null, []), 1, 158),
  (29, (.iload_n 1, 30, 1, 0, .null, []), 0, 0),
  (30, (.putfield 55, 33, 3, 2, .null, []), 1, 84),
  (33, (.iload_n 2, 34, 2, 0, .null, []), 0, 0),
  (34, (.ireturn, 35, 0, 0, .null, []), 0, 0)]
/-- ThreadBank.text()I -/
def qc_92 : List qm_E := [
  (0, (.aload_n 0, 1, 0, 0, .null, []), 0, 0),
  (1, (.getfield 29, 4, 4, 4, .null, []), 1, 158),
  (4, (.invokevirtual 59, 7, 76, 0, .null, []), 1, 198),
  (7, (.istore_n 1, 8, 1, 0, .null, []), 0, 0),
  (8, (.aload_n 0, 9, 0, 0, .null, []), 0, 0),
  (9, (.getfield 29, 12, 4, 4, .null, []), 1, 158),
  (12, (.iconst 0, 13, 0, 0, .int 0, []), 0, 0),
  (13, (.putfield 55, 16, 3, 2, .null, []), 1, 84),
  (16, (.iload_n 1, 17, 1, 0, .null, []), 0, 0),
  (17, (.ifCond .ne 14, 20, 31, 0, .null, []), 0, 0),
  (20, (.bipush (-10), 22, 0, 0, .int (-10 : Int32), []), 0, 0),
  (22, (.aload_n 0, 23, 0, 0, .null, []), 0, 0),
  (23, (.getfield 29, 26, 4, 4, .null, []), 1, 158),
  (26, (.getfield 63, 29, 3, 5, .null, []), 1, 90),
  (29, (.isub, 30, 0, 0, .null, []), 0, 0),
  (30, (.ireturn, 31, 0, 0, .null, []), 0, 0),
  (31, (.aload_n 0, 32, 0, 0, .null, []), 0, 0),
  (32, (.getfield 10, 35, 4, 0, .null, []), 1, 154),
  (35, (.aload_n 0, 36, 0, 0, .null, []), 0, 0),
  (36, (.getfield 29, 39, 4, 4, .null, []), 1, 158),
  (39, (.getfield 66, 42, 3, 1, .null, []), 1, 82),
  (42, (.invokevirtual 69, 45, 23, 1, .null, []), 2, 128),
  (45, (.aload_n 0, 46, 0, 0, .null, []), 0, 0),
  (46, (.getfield 22, 49, 4, 3, .null, []), 1, 157),
  (49, (.iconst 0, 50, 0, 0, .int 0, []), 0, 0),
  (50, (.iconst 0, 51, 0, 0, .int 0, []), 0, 0),
  (51, (.bastore, 52, 0, 0, .null, []), 0, 0),
  (52, (.aload_n 0, 53, 0, 0, .null, []), 0, 0),
  (53, (.getfield 22, 56, 4, 3, .null, []), 1, 157),
  (56, (.iconst 1, 57, 0, 0, .int 1, []), 0, 0),
  (57, (.iconst 0, 58, 0, 0, .int 0, []), 0, 0),
  (58, (.bastore, 59, 0, 0, .null, []), 0, 0),
  (59, (.aload_n 0, 60, 0, 0, .null, []), 0, 0),
  (60, (.getfield 29, 63, 4, 4, .null, []), 1, 158),
  (63, (.getfield 73, 66, 3, 3, .null, []), 1, 86),
  (66, (.ireturn, 67, 0, 0, .null, []), 0, 0)]
/-- ThreadBank.fault()I -/
def qc_93 : List qm_E := [
  (0, (.aload_n 0, 1, 0, 0, .null, []), 0, 0),
  (1, (.getfield 29, 4, 4, 4, .null, []), 1, 158),
  (4, (.getfield 76, 7, 3, 4, .null, []), 1, 88),
  (7, (.ireturn, 8, 0, 0, .null, []), 0, 0)]
/-- ThreadBank.rule(I)I -/
def qc_94 : List qm_E := [
  (0, (.iload_n 1, 1, 1, 0, .null, []), 0, 0),
  (1, (.tableswitch 75 0 4 #[35, 43, 51, 59, 67], 36, 76, 0, .null, [(0, 36), (1, 44), (2, 52), (3, 60), (4, 68)]), 0, 0),
  (36, (.aload_n 0, 37, 0, 0, .null, []), 0, 0),
  (37, (.getfield 10, 40, 4, 0, .null, []), 1, 154),
  (40, (.getfield 79, 43, 1, 6, .null, []), 1, 41),
  (43, (.ireturn, 44, 0, 0, .null, []), 0, 0),
  (44, (.aload_n 0, 45, 0, 0, .null, []), 0, 0),
  (45, (.getfield 10, 48, 4, 0, .null, []), 1, 154),
  (48, (.getfield 82, 51, 1, 7, .null, []), 1, 43),
  (51, (.ireturn, 52, 0, 0, .null, []), 0, 0),
  (52, (.aload_n 0, 53, 0, 0, .null, []), 0, 0),
  (53, (.getfield 10, 56, 4, 0, .null, []), 1, 154),
  (56, (.getfield 85, 59, 1, 8, .null, []), 1, 46),
  (59, (.ireturn, 60, 0, 0, .null, []), 0, 0),
  (60, (.aload_n 0, 61, 0, 0, .null, []), 0, 0),
  (61, (.getfield 10, 64, 4, 0, .null, []), 1, 154),
  (64, (.invokevirtual 88, 67, 39, 0, .null, []), 2, 143),
  (67, (.ireturn, 68, 0, 0, .null, []), 0, 0),
  (68, (.aload_n 0, 69, 0, 0, .null, []), 0, 0),
  (69, (.getfield 10, 72, 4, 0, .null, []), 1, 154),
  (72, (.invokevirtual 92, 75, 43, 0, .null, []), 2, 151),
  (75, (.ireturn, 76, 0, 0, .null, []), 0, 0),
  (76, (.iconst (-1), 77, 0, 0, .int (-1 : Int32), []), 0, 0),
  (77, (.ireturn, 78, 0, 0, .null, []), 0, 0)]
/-- ThreadBank.clerk(II)I -/
def qc_95 : List qm_E := [
  (0, (.aload_n 0, 1, 0, 0, .null, []), 0, 0),
  (1, (.getfield 10, 4, 4, 0, .null, []), 1, 154),
  (4, (.iload_n 1, 5, 1, 0, .null, []), 0, 0),
  (5, (.invokevirtual 95, 8, 28, 1, .null, []), 2, 159),
  (8, (.ifCond .ne 5, 11, 13, 0, .null, []), 0, 0),
  (11, (.iconst (-1), 12, 0, 0, .int (-1 : Int32), []), 0, 0),
  (12, (.ireturn, 13, 0, 0, .null, []), 0, 0),
  (13, (.iload_n 2, 14, 2, 0, .null, []), 0, 0),
  (14, (.tableswitch 70 0 3 #[30, 39, 48, 57], 44, 84, 0, .null, [(0, 44), (1, 53), (2, 62), (3, 71)]), 0, 0),
  (44, (.aload_n 0, 45, 0, 0, .null, []), 0, 0),
  (45, (.getfield 10, 48, 4, 0, .null, []), 1, 154),
  (48, (.iload_n 1, 49, 1, 0, .null, []), 0, 0),
  (49, (.invokevirtual 98, 52, 32, 1, .null, []), 2, 160),
  (52, (.ireturn, 53, 0, 0, .null, []), 0, 0),
  (53, (.aload_n 0, 54, 0, 0, .null, []), 0, 0),
  (54, (.getfield 10, 57, 4, 0, .null, []), 1, 154),
  (57, (.iload_n 1, 58, 1, 0, .null, []), 0, 0),
  (58, (.invokevirtual 102, 61, 36, 1, .null, []), 2, 161),
  (61, (.ireturn, 62, 0, 0, .null, []), 0, 0),
  (62, (.aload_n 0, 63, 0, 0, .null, []), 0, 0),
  (63, (.getfield 10, 66, 4, 0, .null, []), 1, 154),
  (66, (.iload_n 1, 67, 1, 0, .null, []), 0, 0),
  (67, (.invokevirtual 105, 70, 38, 1, .null, []), 2, 173),
  (70, (.ireturn, 71, 0, 0, .null, []), 0, 0),
  (71, (.sipush 1000, 74, 0, 0, .int 1000, []), 0, 0),
  (74, (.aload_n 0, 75, 0, 0, .null, []), 0, 0),
  (75, (.getfield 10, 78, 4, 0, .null, []), 1, 154),
  (78, (.iload_n 1, 79, 1, 0, .null, []), 0, 0),
  (79, (.invokevirtual 108, 82, 55, 1, .null, []), 2, 174),
  (82, (.iadd, 83, 0, 0, .null, []), 0, 0),
  (83, (.ireturn, 84, 0, 0, .null, []), 0, 0),
  (84, (.iconst (-1), 85, 0, 0, .int (-1 : Int32), []), 0, 0),
  (85, (.ireturn, 86, 0, 0, .null, []), 0, 0)]
/-- ThreadBank.finger(II)I -/
def qc_96 : List qm_E := [
  (0, (.aload_n 0, 1, 0, 0, .null, []), 0, 0),
  (1, (.getfield 10, 4, 4, 0, .null, []), 1, 154),
  (4, (.iload_n 1, 5, 1, 0, .null, []), 0, 0),
  (5, (.invokevirtual 111, 8, 30, 1, .null, []), 2, 198),
  (8, (.ifCond .eq 12, 11, 20, 0, .null, []), 0, 0),
  (11, (.iload_n 2, 12, 2, 0, .null, []), 0, 0),
  (12, (.ifCond .lt 8, 15, 20, 0, .null, []), 0, 0),
  (15, (.iload_n 2, 16, 2, 0, .null, []), 0, 0),
  (16, (.iconst 1, 17, 0, 0, .int 1, []), 0, 0),
  (17, (.if_icmp .le 5, 20, 22, 0, .null, []), 0, 0),
  (20, (.iconst (-1), 21, 0, 0, .int (-1 : Int32), []), 0, 0),
  (21, (.ireturn, 22, 0, 0, .null, []), 0, 0),
  (22, (.iload_n 2, 23, 2, 0, .null, []), 0, 0),
  (23, (.ifCond .ne 14, 26, 37, 0, .null, []), 0, 0),
  (26, (.aload_n 0, 27, 0, 0, .null, []), 0, 0),
  (27, (.getfield 10, 30, 4, 0, .null, []), 1, 154),
  (30, (.iload_n 1, 31, 1, 0, .null, []), 0, 0),
  (31, (.invokevirtual 114, 34, 37, 1, .null, []), 2, 199),
  (34, (.goto 11, 37, 45, 0, .null, []), 0, 0),
  (37, (.aload_n 0, 38, 0, 0, .null, []), 0, 0),
  (38, (.getfield 10, 41, 4, 0, .null, []), 1, 154),
  (41, (.iload_n 1, 42, 1, 0, .null, []), 0, 0),
  (42, (.invokevirtual 117, 45, 35, 1, .null, []), 2, 200),
  (45, (.ireturn, 46, 0, 0, .null, []), 0, 0)]
/-- ThreadBank.thread(II)I -/
def qc_97 : List qm_E := [
  (0, (.aload_n 0, 1, 0, 0, .null, []), 0, 0),
  (1, (.getfield 10, 4, 4, 0, .null, []), 1, 154),
  (4, (.iload_n 1, 5, 1, 0, .null, []), 0, 0),
  (5, (.invokevirtual 120, 8, 29, 1, .null, []), 2, 205),
  (8, (.ifCond .ne 5, 11, 13, 0, .null, []), 0, 0),
  (11, (.iconst (-1), 12, 0, 0, .int (-1 : Int32), []), 0, 0),
  (12, (.ireturn, 13, 0, 0, .null, []), 0, 0),
  (13, (.iload_n 2, 14, 2, 0, .null, []), 0, 0),
  (14, (.tableswitch 77 0 3 #[30, 40, 50, 60], 44, 91, 0, .null, [(0, 44), (1, 54), (2, 64), (3, 74)]), 0, 0),
  (44, (.aload_n 0, 45, 0, 0, .null, []), 0, 0),
  (45, (.getfield 10, 48, 4, 0, .null, []), 1, 154),
  (48, (.getfield 123, 51, 1, 1, .null, []), 1, 31),
  (51, (.iload_n 1, 52, 1, 0, .null, []), 0, 0),
  (52, (.iaload, 53, 0, 0, .null, []), 0, 0),
  (53, (.ireturn, 54, 0, 0, .null, []), 0, 0),
  (54, (.aload_n 0, 55, 0, 0, .null, []), 0, 0),
  (55, (.getfield 10, 58, 4, 0, .null, []), 1, 154),
  (58, (.getfield 126, 61, 1, 2, .null, []), 1, 34),
  (61, (.iload_n 1, 62, 1, 0, .null, []), 0, 0),
  (62, (.iaload, 63, 0, 0, .null, []), 0, 0),
  (63, (.ireturn, 64, 0, 0, .null, []), 0, 0),
  (64, (.aload_n 0, 65, 0, 0, .null, []), 0, 0),
  (65, (.getfield 10, 68, 4, 0, .null, []), 1, 154),
  (68, (.getfield 129, 71, 1, 3, .null, []), 1, 37),
  (71, (.iload_n 1, 72, 1, 0, .null, []), 0, 0),
  (72, (.iaload, 73, 0, 0, .null, []), 0, 0),
  (73, (.ireturn, 74, 0, 0, .null, []), 0, 0),
  (74, (.aload_n 0, 75, 0, 0, .null, []), 0, 0),
  (75, (.getfield 10, 78, 4, 0, .null, []), 1, 154),
  (78, (.iload_n 1, 79, 1, 0, .null, []), 0, 0),
  (79, (.invokevirtual 132, 82, 51, 1, .null, []), 2, 206),
  (82, (.ifCond .eq 7, 85, 89, 0, .null, []), 0, 0),
  (85, (.iconst 1, 86, 0, 0, .int 1, []), 0, 0),
  (86, (.goto 4, 89, 90, 0, .null, []), 0, 0),
  (89, (.iconst 0, 90, 0, 0, .int 0, []), 0, 0),
  (90, (.ireturn, 91, 0, 0, .null, []), 0, 0),
  (91, (.iconst (-1), 92, 0, 0, .int (-1 : Int32), []), 0, 0),
  (92, (.ireturn, 93, 0, 0, .null, []), 0, 0)]
/-- ThreadBank.tie(III)I -/
def qc_98 : List qm_E := [
  (0, (.aload_n 0, 1, 0, 0, .null, []), 0, 0),
  (1, (.getfield 10, 4, 4, 0, .null, []), 1, 154),
  (4, (.iload_n 1, 5, 1, 0, .null, []), 0, 0),
  (5, (.iload_n 2, 6, 2, 0, .null, []), 0, 0),
  (6, (.iload_n 3, 7, 3, 0, .null, []), 0, 0),
  (7, (.invokevirtual 135, 10, 47, 3, .null, []), 2, 211),
  (10, (.ireturn, 11, 0, 0, .null, []), 0, 0)]
/-- ThreadBank.cut(I)I -/
def qc_99 : List qm_E := [
  (0, (.aload_n 0, 1, 0, 0, .null, []), 0, 0),
  (1, (.getfield 10, 4, 4, 0, .null, []), 1, 154),
  (4, (.iload_n 1, 5, 1, 0, .null, []), 0, 0),
  (5, (.invokevirtual 120, 8, 29, 1, .null, []), 2, 205),
  (8, (.ifCond .ne 5, 11, 13, 0, .null, []), 0, 0),
  (11, (.iconst (-1), 12, 0, 0, .int (-1 : Int32), []), 0, 0),
  (12, (.ireturn, 13, 0, 0, .null, []), 0, 0),
  (13, (.aload_n 0, 14, 0, 0, .null, []), 0, 0),
  (14, (.getfield 10, 17, 4, 0, .null, []), 1, 154),
  (17, (.iload_n 1, 18, 1, 0, .null, []), 0, 0),
  (18, (.invokevirtual 139, 21, 48, 1, .null, []), 2, 223),
  (21, (.aload_n 0, 22, 0, 0, .null, []), 0, 0),
  (22, (.getfield 10, 25, 4, 0, .null, []), 1, 154),
  (25, (.getfield 82, 28, 1, 7, .null, []), 1, 43),
  (28, (.ireturn, 29, 0, 0, .null, []), 0, 0)]
/-- ThreadBank.move(II)I -/
def qc_100 : List qm_E := [
  (0, (.aload_n 0, 1, 0, 0, .null, []), 0, 0),
  (1, (.getfield 10, 4, 4, 0, .null, []), 1, 154),
  (4, (.iload_n 1, 5, 1, 0, .null, []), 0, 0),
  (5, (.invokevirtual 120, 8, 29, 1, .null, []), 2, 205),
  (8, (.ifCond .eq 14, 11, 22, 0, .null, []), 0, 0),
  (11, (.aload_n 0, 12, 0, 0, .null, []), 0, 0),
  (12, (.getfield 10, 15, 4, 0, .null, []), 1, 154),
  (15, (.iload_n 2, 16, 2, 0, .null, []), 0, 0),
  (16, (.invokevirtual 111, 19, 30, 1, .null, []), 2, 198),
  (19, (.ifCond .ne 5, 22, 24, 0, .null, []), 0, 0),
  (22, (.iconst (-1), 23, 0, 0, .int (-1 : Int32), []), 0, 0),
  (23, (.ireturn, 24, 0, 0, .null, []), 0, 0),
  (24, (.aload_n 0, 25, 0, 0, .null, []), 0, 0),
  (25, (.getfield 10, 28, 4, 0, .null, []), 1, 154),
  (28, (.getfield 123, 31, 1, 1, .null, []), 1, 31),
  (31, (.iload_n 1, 32, 1, 0, .null, []), 0, 0),
  (32, (.iaload, 33, 0, 0, .null, []), 0, 0),
  (33, (.istore_n 3, 34, 3, 0, .null, []), 0, 0),
  (34, (.iload_n 3, 35, 3, 0, .null, []), 0, 0),
  (35, (.iload_n 2, 36, 2, 0, .null, []), 0, 0),
  (36, (.if_icmp .ne 6, 39, 42, 0, .null, []), 0, 0),
  (39, (.bipush (-2), 41, 0, 0, .int (-2 : Int32), []), 0, 0),
  (41, (.ireturn, 42, 0, 0, .null, []), 0, 0),
  (42, (.aload_n 0, 43, 0, 0, .null, []), 0, 0),
  (43, (.getfield 10, 46, 4, 0, .null, []), 1, 154),
  (46, (.iload_n 2, 47, 2, 0, .null, []), 0, 0),
  (47, (.invokevirtual 143, 50, 40, 1, .null, []), 2, 231),
  (50, (.ifCond .gt 6, 53, 56, 0, .null, []), 0, 0),
  (53, (.bipush (-3), 55, 0, 0, .int (-3 : Int32), []), 0, 0),
  (55, (.ireturn, 56, 0, 0, .null, []), 0, 0),
  (56, (.aload_n 0, 57, 0, 0, .null, []), 0, 0),
  (57, (.getfield 10, 60, 4, 0, .null, []), 1, 154),
  (60, (.getfield 123, 63, 1, 1, .null, []), 1, 31),
  (63, (.iload_n 1, 64, 1, 0, .null, []), 0, 0),
  (64, (.iload_n 2, 65, 2, 0, .null, []), 0, 0),
  (65, (.iastore, 66, 0, 0, .null, []), 0, 0),
  (66, (.iload_n 3, 67, 3, 0, .null, []), 0, 0),
  (67, (.ireturn, 68, 0, 0, .null, []), 0, 0)]
/-- ThreadBank.lose(I)I -/
def qc_101 : List qm_E := [
  (0, (.aload_n 0, 1, 0, 0, .null, []), 0, 0),
  (1, (.getfield 10, 4, 4, 0, .null, []), 1, 154),
  (4, (.iload_n 1, 5, 1, 0, .null, []), 0, 0),
  (5, (.invokevirtual 95, 8, 28, 1, .null, []), 2, 159),
  (8, (.ifCond .ne 5, 11, 13, 0, .null, []), 0, 0),
  (11, (.iconst (-1), 12, 0, 0, .int (-1 : Int32), []), 0, 0),
  (12, (.ireturn, 13, 0, 0, .null, []), 0, 0),
  (13, (.aload_n 0, 14, 0, 0, .null, []), 0, 0),
  (14, (.getfield 10, 17, 4, 0, .null, []), 1, 154),
  (17, (.getfield 82, 20, 1, 7, .null, []), 1, 43),
  (20, (.istore_n 2, 21, 2, 0, .null, []), 0, 0),
  (21, (.iload_n 2, 22, 2, 0, .null, []), 0, 0),
  (22, (.iconst 1, 23, 0, 0, .int 1, []), 0, 0),
  (23, (.isub, 24, 0, 0, .null, []), 0, 0),
  (24, (.istore_n 3, 25, 3, 0, .null, []), 0, 0),
  (25, (.iload_n 3, 26, 3, 0, .null, []), 0, 0),
  (26, (.ifCond .lt 29, 29, 55, 0, .null, []), 0, 0),
  (29, (.aload_n 0, 30, 0, 0, .null, []), 0, 0),
  (30, (.getfield 10, 33, 4, 0, .null, []), 1, 154),
  (33, (.iload_n 3, 34, 3, 0, .null, []), 0, 0),
  (34, (.invokevirtual 146, 37, 33, 1, .null, []), 2, 236),
  (37, (.iload_n 1, 38, 1, 0, .null, []), 0, 0),
  (38, (.if_icmp .ne 11, 41, 49, 0, .null, []), 0, 0),
  (41, (.aload_n 0, 42, 0, 0, .null, []), 0, 0),
  (42, (.getfield 10, 45, 4, 0, .null, []), 1, 154),
  (45, (.iload_n 3, 46, 3, 0, .null, []), 0, 0),
  (46, (.invokevirtual 139, 49, 48, 1, .null, []), 2, 223),
  (49, (.iinc 3 (-1), 52, 3, 0, .int (-1 : Int32), []), 0, 0),
  (52, (.goto (-27), 55, 25, 0, .null, []), 0, 0),
  (55, (.iload_n 2, 56, 2, 0, .null, []), 0, 0),
  (56, (.aload_n 0, 57, 0, 0, .null, []), 0, 0),
  (57, (.getfield 10, 60, 4, 0, .null, []), 1, 154),
  (60, (.getfield 82, 63, 1, 7, .null, []), 1, 43),
  (63, (.isub, 64, 0, 0, .null, []), 0, 0),
  (64, (.ireturn, 65, 0, 0, .null, []), 0, 0)]
/-- ThreadBank.teach(II)I -/
def qc_102 : List qm_E := [
  (0, (.aload_n 0, 1, 0, 0, .null, []), 0, 0),
  (1, (.getfield 10, 4, 4, 0, .null, []), 1, 154),
  (4, (.iload_n 1, 5, 1, 0, .null, []), 0, 0),
  (5, (.invokevirtual 95, 8, 28, 1, .null, []), 2, 159),
  (8, (.ifCond .eq 12, 11, 20, 0, .null, []), 0, 0),
  (11, (.iload_n 2, 12, 2, 0, .null, []), 0, 0),
  (12, (.ifCond .lt 8, 15, 20, 0, .null, []), 0, 0),
  (15, (.iload_n 2, 16, 2, 0, .null, []), 0, 0),
  (16, (.iconst 4, 17, 0, 0, .int 4, []), 0, 0),
  (17, (.if_icmp .lt 5, 20, 22, 0, .null, []), 0, 0),
  (20, (.iconst (-1), 21, 0, 0, .int (-1 : Int32), []), 0, 0),
  (21, (.ireturn, 22, 0, 0, .null, []), 0, 0),
  (22, (.iconst 0, 23, 0, 0, .int 0, []), 0, 0),
  (23, (.istore_n 3, 24, 3, 0, .null, []), 0, 0),
  (24, (.iload_n 3, 25, 3, 0, .null, []), 0, 0),
  (25, (.iconst 5, 26, 0, 0, .int 5, []), 0, 0),
  (26, (.if_icmp .ge 33, 29, 59, 0, .null, []), 0, 0),
  (29, (.aload_n 0, 30, 0, 0, .null, []), 0, 0),
  (30, (.getfield 10, 33, 4, 0, .null, []), 1, 154),
  (33, (.bipush 10, 35, 0, 0, .int 10, []), 0, 0),
  (35, (.iload_n 1, 36, 1, 0, .null, []), 0, 0),
  (36, (.imul, 37, 0, 0, .null, []), 0, 0),
  (37, (.iload_n 3, 38, 3, 0, .null, []), 0, 0),
  (38, (.iadd, 39, 0, 0, .null, []), 0, 0),
  (39, (.invokevirtual 117, 42, 35, 1, .null, []), 2, 200),
  (42, (.iload_n 2, 43, 2, 0, .null, []), 0, 0),
  (43, (.iload_n 3, 44, 3, 0, .null, []), 0, 0),
  (44, (.invokestatic 149, 47, 27, 2, .null, []), 3, 1),
  (47, (.if_icmp .le 6, 50, 53, 0, .null, []), 0, 0),
  (50, (.bipush (-3), 52, 0, 0, .int (-3 : Int32), []), 0, 0),
  (52, (.ireturn, 53, 0, 0, .null, []), 0, 0),
  (53, (.iinc 3 1, 56, 3, 0, .int 1, []), 0, 0),
  (56, (.goto (-32), 59, 24, 0, .null, []), 0, 0),
  (59, (.aload_n 0, 60, 0, 0, .null, []), 0, 0),
  (60, (.getfield 10, 63, 4, 0, .null, []), 1, 154),
  (63, (.iload_n 1, 64, 1, 0, .null, []), 0, 0),
  (64, (.invokevirtual 98, 67, 32, 1, .null, []), 2, 160),
  (67, (.istore_n 3, 68, 3, 0, .null, []), 0, 0),
  (68, (.aload_n 0, 69, 0, 0, .null, []), 0, 0),
  (69, (.getfield 10, 72, 4, 0, .null, []), 1, 154),
  (72, (.getfield 153, 75, 1, 0, .null, []), 1, 29),
  (75, (.iload_n 1, 76, 1, 0, .null, []), 0, 0),
  (76, (.iload_n 2, 77, 2, 0, .null, []), 0, 0),
  (77, (.iastore, 78, 0, 0, .null, []), 0, 0),
  (78, (.iload_n 3, 79, 3, 0, .null, []), 0, 0),
  (79, (.ireturn, 80, 0, 0, .null, []), 0, 0)]
/-- ThreadBank.day(I)I -/
def qc_103 : List qm_E := [
  (0, (.iload_n 1, 1, 1, 0, .null, []), 0, 0),
  (1, (.ifCond .lt 9, 4, 10, 0, .null, []), 0, 0),
  (4, (.iload_n 1, 5, 1, 0, .null, []), 0, 0),
  (5, (.bipush 9, 7, 0, 0, .int 9, []), 0, 0),
  (7, (.if_icmp .le 5, 10, 12, 0, .null, []), 0, 0),
  (10, (.iconst (-1), 11, 0, 0, .int (-1 : Int32), []), 0, 0),
  (11, (.ireturn, 12, 0, 0, .null, []), 0, 0),
  (12, (.aload_n 0, 13, 0, 0, .null, []), 0, 0),
  (13, (.getfield 10, 16, 4, 0, .null, []), 1, 154),
  (16, (.getfield 85, 19, 1, 8, .null, []), 1, 46),
  (19, (.istore_n 2, 20, 2, 0, .null, []), 0, 0),
  (20, (.aload_n 0, 21, 0, 0, .null, []), 0, 0),
  (21, (.getfield 10, 24, 4, 0, .null, []), 1, 154),
  (24, (.iload_n 1, 25, 1, 0, .null, []), 0, 0),
  (25, (.putfield 85, 28, 1, 8, .null, []), 1, 46),
  (28, (.iload_n 2, 29, 2, 0, .null, []), 0, 0),
  (29, (.ireturn, 30, 0, 0, .null, []), 0, 0)]
/-- ThreadBank.owed(II)I -/
def qc_104 : List qm_E := [
  (0, (.aload_n 0, 1, 0, 0, .null, []), 0, 0),
  (1, (.getfield 10, 4, 4, 0, .null, []), 1, 154),
  (4, (.iload_n 1, 5, 1, 0, .null, []), 0, 0),
  (5, (.invokevirtual 156, 8, 31, 1, .null, []), 3, 10),
  (8, (.ifCond .eq 12, 11, 20, 0, .null, []), 0, 0),
  (11, (.iload_n 2, 12, 2, 0, .null, []), 0, 0),
  (12, (.ifCond .lt 8, 15, 20, 0, .null, []), 0, 0),
  (15, (.iload_n 2, 16, 2, 0, .null, []), 0, 0),
  (16, (.iconst 1, 17, 0, 0, .int 1, []), 0, 0),
  (17, (.if_icmp .le 5, 20, 22, 0, .null, []), 0, 0),
  (20, (.iconst (-1), 21, 0, 0, .int (-1 : Int32), []), 0, 0),
  (21, (.ireturn, 22, 0, 0, .null, []), 0, 0),
  (22, (.aload_n 0, 23, 0, 0, .null, []), 0, 0),
  (23, (.getfield 10, 26, 4, 0, .null, []), 1, 154),
  (26, (.iload_n 1, 27, 1, 0, .null, []), 0, 0),
  (27, (.iload_n 2, 28, 2, 0, .null, []), 0, 0),
  (28, (.ifCond .ne 8, 31, 36, 0, .null, []), 0, 0),
  (31, (.bipush 9, 33, 0, 0, .int 9, []), 0, 0),
  (33, (.goto 10, 36, 43, 0, .null, []), 0, 0),
  (36, (.aload_n 0, 37, 0, 0, .null, []), 0, 0),
  (37, (.getfield 10, 40, 4, 0, .null, []), 1, 154),
  (40, (.getfield 85, 43, 1, 8, .null, []), 1, 46),
  (43, (.invokevirtual 159, 46, 53, 2, .null, []), 3, 11),
  (46, (.ireturn, 47, 0, 0, .null, []), 0, 0)]
/-- ThreadBank.sum(I)I -/
def qc_105 : List qm_E := [
  (0, (.iload_n 1, 1, 1, 0, .null, []), 0, 0),
  (1, (.tableswitch 57 0 2 #[27, 37, 52], 28, 58, 0, .null, [(0, 28), (1, 38), (2, 53)]), 0, 0),
  (28, (.aload_n 0, 29, 0, 0, .null, []), 0, 0),
  (29, (.getfield 10, 32, 4, 0, .null, []), 1, 154),
  (32, (.bipush 9, 34, 0, 0, .int 9, []), 0, 0),
  (34, (.invokevirtual 162, 37, 54, 1, .null, []), 3, 16),
  (37, (.ireturn, 38, 0, 0, .null, []), 0, 0),
  (38, (.aload_n 0, 39, 0, 0, .null, []), 0, 0),
  (39, (.getfield 10, 42, 4, 0, .null, []), 1, 154),
  (42, (.aload_n 0, 43, 0, 0, .null, []), 0, 0),
  (43, (.getfield 10, 46, 4, 0, .null, []), 1, 154),
  (46, (.getfield 85, 49, 1, 8, .null, []), 1, 46),
  (49, (.invokevirtual 162, 52, 54, 1, .null, []), 3, 16),
  (52, (.ireturn, 53, 0, 0, .null, []), 0, 0),
  (53, (.aload_n 0, 54, 0, 0, .null, []), 0, 0),
  (54, (.invokevirtual 165, 57, 131, 0, .null, []), 3, 20),
  (57, (.ireturn, 58, 0, 0, .null, []), 0, 0),
  (58, (.iconst (-1), 59, 0, 0, .int (-1 : Int32), []), 0, 0),
  (59, (.ireturn, 60, 0, 0, .null, []), 0, 0)]
/-- ThreadBank.ring(I)I -/
def qc_106 : List qm_E := [
  (0, (.iload_n 1, 1, 1, 0, .null, []), 0, 0),
  (1, (.bipush 10, 3, 0, 0, .int 10, []), 0, 0),
  (3, (.if_icmp .lt 7, 6, 10, 0, .null, []), 0, 0),
  (6, (.iconst 1, 7, 0, 0, .int 1, []), 0, 0),
  (7, (.goto 4, 10, 11, 0, .null, []), 0, 0),
  (10, (.iconst 0, 11, 0, 0, .int 0, []), 0, 0),
  (11, (.istore_n 2, 12, 2, 0, .null, []), 0, 0),
  (12, (.iload_n 1, 13, 1, 0, .null, []), 0, 0),
  (13, (.ifCond .eq 14, 16, 27, 0, .null, []), 0, 0),
  (16, (.iload_n 1, 17, 1, 0, .null, []), 0, 0),
  (17, (.iconst 1, 18, 0, 0, .int 1, []), 0, 0),
  (18, (.if_icmp .eq 9, 21, 27, 0, .null, []), 0, 0),
  (21, (.iload_n 2, 22, 2, 0, .null, []), 0, 0),
  (22, (.ifCond .ne 5, 25, 27, 0, .null, []), 0, 0),
  (25, (.iconst (-1), 26, 0, 0, .int (-1 : Int32), []), 0, 0),
  (26, (.ireturn, 27, 0, 0, .null, []), 0, 0),
  (27, (.aload_n 0, 28, 0, 0, .null, []), 0, 0),
  (28, (.getfield 36, 31, 4, 5, .null, []), 1, 159),
  (31, (.aload_n 0, 32, 0, 0, .null, []), 0, 0),
  (32, (.getfield 10, 35, 4, 0, .null, []), 1, 154),
  (35, (.invokevirtual 168, 38, 10, 1, .null, []), 3, 29),
  (38, (.aload_n 0, 39, 0, 0, .null, []), 0, 0),
  (39, (.getfield 36, 42, 4, 5, .null, []), 1, 159),
  (42, (.invokevirtual 171, 45, 13, 0, .null, []), 3, 34),
  (45, (.ifCond .ne 6, 48, 51, 0, .null, []), 0, 0),
  (48, (.bipush (-4), 50, 0, 0, .int (-4 : Int32), []), 0, 0),
  (50, (.ireturn, 51, 0, 0, .null, []), 0, 0),
  (51, (.iload_n 2, 52, 2, 0, .null, []), 0, 0),
  (52, (.ifCond .eq 15, 55, 67, 0, .null, []), 0, 0),
  (55, (.aload_n 0, 56, 0, 0, .null, []), 0, 0),
  (56, (.getfield 36, 59, 4, 5, .null, []), 1, 159),
  (59, (.iload_n 1, 60, 1, 0, .null, []), 0, 0),
  (60, (.bipush 10, 62, 0, 0, .int 10, []), 0, 0),
  (62, (.isub, 63, 0, 0, .null, []), 0, 0),
  (63, (.invokevirtual 174, 66, 16, 1, .null, []), 3, 57),
  (66, (.ireturn, 67, 0, 0, .null, []), 0, 0),
  (67, (.iload_n 1, 68, 1, 0, .null, []), 0, 0),
  (68, (.ifCond .ne 13, 71, 81, 0, .null, []), 0, 0),
  (71, (.aload_n 0, 72, 0, 0, .null, []), 0, 0),
  (72, (.getfield 36, 75, 4, 5, .null, []), 1, 159),
  (75, (.invokevirtual 177, 78, 14, 0, .null, []), 3, 61),
  (78, (.goto 10, 81, 88, 0, .null, []), 0, 0),
  (81, (.aload_n 0, 82, 0, 0, .null, []), 0, 0),
  (82, (.getfield 36, 85, 4, 5, .null, []), 1, 159),
  (85, (.invokevirtual 180, 88, 15, 0, .null, []), 3, 65),
  (88, (.ireturn, 89, 0, 0, .null, []), 0, 0)]
/-- ThreadBank.clear(I)I -/
def qc_107 : List qm_E := [
  (0, (.iload_n 1, 1, 1, 0, .null, []), 0, 0),
  (1, (.ifCond .lt 8, 4, 9, 0, .null, []), 0, 0),
  (4, (.iload_n 1, 5, 1, 0, .null, []), 0, 0),
  (5, (.iconst 1, 6, 0, 0, .int 1, []), 0, 0),
  (6, (.if_icmp .le 5, 9, 11, 0, .null, []), 0, 0),
  (9, (.iconst (-1), 10, 0, 0, .int (-1 : Int32), []), 0, 0),
  (10, (.ireturn, 11, 0, 0, .null, []), 0, 0),
  (11, (.aload_n 0, 12, 0, 0, .null, []), 0, 0),
  (12, (.getfield 36, 15, 4, 5, .null, []), 1, 159),
  (15, (.aload_n 0, 16, 0, 0, .null, []), 0, 0),
  (16, (.getfield 10, 19, 4, 0, .null, []), 1, 154),
  (19, (.invokevirtual 168, 22, 10, 1, .null, []), 3, 29),
  (22, (.aload_n 0, 23, 0, 0, .null, []), 0, 0),
  (23, (.getfield 36, 26, 4, 5, .null, []), 1, 159),
  (26, (.invokevirtual 183, 29, 17, 0, .null, []), 3, 73),
  (29, (.istore_n 2, 30, 2, 0, .null, []), 0, 0),
  (30, (.iload_n 1, 31, 1, 0, .null, []), 0, 0),
  (31, (.ifCond .ne 13, 34, 44, 0, .null, []), 0, 0),
  (34, (.aload_n 0, 35, 0, 0, .null, []), 0, 0),
  (35, (.getfield 36, 38, 4, 5, .null, []), 1, 159),
  (38, (.invokevirtual 186, 41, 12, 0, .null, []), 3, 82),
  (41, (.goto 4, 44, 45, 0, .null, []), 0, 0),
  (44, (.iload_n 2, 45, 2, 0, .null, []), 0, 0),
  (45, (.ireturn, 46, 0, 0, .null, []), 0, 0)]
/-- ThreadBank.left(I)I -/
def qc_108 : List qm_E := [
  (0, (.aload_n 0, 1, 0, 0, .null, []), 0, 0),
  (1, (.getfield 10, 4, 4, 0, .null, []), 1, 154),
  (4, (.iload_n 1, 5, 1, 0, .null, []), 0, 0),
  (5, (.invokevirtual 156, 8, 31, 1, .null, []), 3, 10),
  (8, (.ifCond .ne 5, 11, 13, 0, .null, []), 0, 0),
  (11, (.iconst (-1), 12, 0, 0, .int (-1 : Int32), []), 0, 0),
  (12, (.ireturn, 13, 0, 0, .null, []), 0, 0),
  (13, (.aload_n 0, 14, 0, 0, .null, []), 0, 0),
  (14, (.getfield 36, 17, 4, 5, .null, []), 1, 159),
  (17, (.aload_n 0, 18, 0, 0, .null, []), 0, 0),
  (18, (.getfield 10, 21, 4, 0, .null, []), 1, 154),
  (21, (.invokevirtual 168, 24, 10, 1, .null, []), 3, 29),
  (24, (.aload_n 0, 25, 0, 0, .null, []), 0, 0),
  (25, (.getfield 36, 28, 4, 5, .null, []), 1, 159),
  (28, (.invokevirtual 183, 31, 17, 0, .null, []), 3, 73),
  (31, (.pop, 32, 0, 0, .null, []), 0, 0),
  (32, (.aload_n 0, 33, 0, 0, .null, []), 0, 0),
  (33, (.getfield 36, 36, 4, 5, .null, []), 1, 159),
  (36, (.iload_n 1, 37, 1, 0, .null, []), 0, 0),
  (37, (.bipush 10, 39, 0, 0, .int 10, []), 0, 0),
  (39, (.idiv, 40, 0, 0, .null, []), 0, 0),
  (40, (.iload_n 1, 41, 1, 0, .null, []), 0, 0),
  (41, (.bipush 10, 43, 0, 0, .int 10, []), 0, 0),
  (43, (.irem, 44, 0, 0, .null, []), 0, 0),
  (44, (.invokevirtual 189, 47, 11, 2, .null, []), 3, 90),
  (47, (.ireturn, 48, 0, 0, .null, []), 0, 0)]
/-- ThreadBank.pays()I -/
def qc_109 : List qm_E := [
  (0, (.iconst 0, 1, 0, 0, .int 0, []), 0, 0),
  (1, (.istore_n 1, 2, 1, 0, .null, []), 0, 0),
  (2, (.iconst 0, 3, 0, 0, .int 0, []), 0, 0),
  (3, (.istore_n 2, 4, 2, 0, .null, []), 0, 0),
  (4, (.iload_n 2, 5, 2, 0, .null, []), 0, 0),
  (5, (.aload_n 0, 6, 0, 0, .null, []), 0, 0),
  (6, (.getfield 10, 9, 4, 0, .null, []), 1, 154),
  (9, (.getfield 79, 12, 1, 6, .null, []), 1, 41),
  (12, (.if_icmp .ge 23, 15, 35, 0, .null, []), 0, 0),
  (15, (.aload_n 0, 16, 0, 0, .null, []), 0, 0),
  (16, (.getfield 10, 19, 4, 0, .null, []), 1, 154),
  (19, (.iload_n 2, 20, 2, 0, .null, []), 0, 0),
  (20, (.invokevirtual 108, 23, 55, 1, .null, []), 2, 174),
  (23, (.ifCond .eq 6, 26, 29, 0, .null, []), 0, 0),
  (26, (.iinc 1 1, 29, 1, 0, .int 1, []), 0, 0),
  (29, (.iinc 2 1, 32, 2, 0, .int 1, []), 0, 0),
  (32, (.goto (-28), 35, 4, 0, .null, []), 0, 0),
  (35, (.iload_n 1, 36, 1, 0, .null, []), 0, 0),
  (36, (.ifCond .ne 5, 39, 41, 0, .null, []), 0, 0),
  (39, (.iconst 0, 40, 0, 0, .int 0, []), 0, 0),
  (40, (.ireturn, 41, 0, 0, .null, []), 0, 0),
  (41, (.iload_n 1, 42, 1, 0, .null, []), 0, 0),
  (42, (.iconst 4, 43, 0, 0, .int 4, []), 0, 0),
  (43, (.if_icmp .ne 16, 46, 59, 0, .null, []), 0, 0),
  (46, (.aload_n 0, 47, 0, 0, .null, []), 0, 0),
  (47, (.invokevirtual 192, 50, 132, 0, .null, []), 3, 95),
  (50, (.ifCond .eq 9, 53, 59, 0, .null, []), 0, 0),
  (53, (.iload_n 1, 54, 1, 0, .null, []), 0, 0),
  (54, (.iconst 2, 55, 0, 0, .int 2, []), 0, 0),
  (55, (.isub, 56, 0, 0, .null, []), 0, 0),
  (56, (.goto 6, 59, 62, 0, .null, []), 0, 0),
  (59, (.iload_n 1, 60, 1, 0, .null, []), 0, 0),
  (60, (.iconst 1, 61, 0, 0, .int 1, []), 0, 0),
  (61, (.isub, 62, 0, 0, .null, []), 0, 0),
  (62, (.ireturn, 63, 0, 0, .null, []), 0, 0)]
/-- ThreadBank.fewest()I -/
def qc_110 : List qm_E := [
  (0, (.iconst 0, 1, 0, 0, .int 0, []), 0, 0),
  (1, (.istore_n 1, 2, 1, 0, .null, []), 0, 0),
  (2, (.aload_n 0, 3, 0, 0, .null, []), 0, 0),
  (3, (.getfield 10, 6, 4, 0, .null, []), 1, 154),
  (6, (.getfield 82, 9, 1, 7, .null, []), 1, 43),
  (9, (.istore_n 2, 10, 2, 0, .null, []), 0, 0),
  (10, (.iconst 3, 11, 0, 0, .int 3, []), 0, 0),
  (11, (.istore_n 3, 12, 3, 0, .null, []), 0, 0),
  (12, (.iload_n 3, 13, 3, 0, .null, []), 0, 0),
  (13, (.iconst 1, 14, 0, 0, .int 1, []), 0, 0),
  (14, (.if_icmp .lt 41, 17, 55, 0, .null, []), 0, 0),
  (17, (.aload_n 0, 18, 0, 0, .null, []), 0, 0),
  (18, (.getfield 10, 21, 4, 0, .null, []), 1, 154),
  (21, (.iload_n 3, 22, 3, 0, .null, []), 0, 0),
  (22, (.invokevirtual 195, 25, 42, 1, .null, []), 3, 103),
  (25, (.istore 4, 27, 4, 0, .null, []), 0, 0),
  (27, (.iload 4, 29, 4, 0, .null, []), 0, 0),
  (29, (.ifCond .le 20, 32, 49, 0, .null, []), 0, 0),
  (32, (.iload_n 2, 33, 2, 0, .null, []), 0, 0),
  (33, (.ifCond .le 16, 36, 49, 0, .null, []), 0, 0),
  (36, (.iload_n 2, 37, 2, 0, .null, []), 0, 0),
  (37, (.iload_n 3, 38, 3, 0, .null, []), 0, 0),
  (38, (.isub, 39, 0, 0, .null, []), 0, 0),
  (39, (.istore_n 2, 40, 2, 0, .null, []), 0, 0),
  (40, (.iinc 1 1, 43, 1, 0, .int 1, []), 0, 0),
  (43, (.iinc 4 (-1), 46, 4, 0, .int (-1 : Int32), []), 0, 0),
  (46, (.goto (-19), 49, 27, 0, .null, []), 0, 0),
  (49, (.iinc 3 (-1), 52, 3, 0, .int (-1 : Int32), []), 0, 0),
  (52, (.goto (-40), 55, 12, 0, .null, []), 0, 0),
  (55, (.iload_n 1, 56, 1, 0, .null, []), 0, 0),
  (56, (.ireturn, 57, 0, 0, .null, []), 0, 0)]
/-- ThreadBank.place()I -/
def qc_111 : List qm_E := [
  (0, (.bipush (-4), 2, 0, 0, .int (-4 : Int32), []), 0, 0),
  (2, (.istore_n 1, 3, 1, 0, .null, []), 0, 0),
  (3, (.iconst 0, 4, 0, 0, .int 0, []), 0, 0),
  (4, (.istore_n 2, 5, 2, 0, .null, []), 0, 0),
  (5, (.iload_n 2, 6, 2, 0, .null, []), 0, 0),
  (6, (.aload_n 0, 7, 0, 0, .null, []), 0, 0),
  (7, (.getfield 10, 10, 4, 0, .null, []), 1, 154),
  (10, (.getfield 79, 13, 1, 6, .null, []), 1, 41),
  (13, (.if_icmp .ge 57, 16, 70, 0, .null, []), 0, 0),
  (16, (.iload_n 1, 17, 1, 0, .null, []), 0, 0),
  (17, (.bipush (-4), 19, 0, 0, .int (-4 : Int32), []), 0, 0),
  (19, (.if_icmp .eq 22, 22, 41, 0, .null, []), 0, 0),
  (22, (.aload_n 0, 23, 0, 0, .null, []), 0, 0),
  (23, (.getfield 10, 26, 4, 0, .null, []), 1, 154),
  (26, (.iload_n 2, 27, 2, 0, .null, []), 0, 0),
  (27, (.invokevirtual 102, 30, 36, 1, .null, []), 2, 161),
  (30, (.aload_n 0, 31, 0, 0, .null, []), 0, 0),
  (31, (.getfield 10, 34, 4, 0, .null, []), 1, 154),
  (34, (.iload_n 1, 35, 1, 0, .null, []), 0, 0),
  (35, (.invokevirtual 102, 38, 36, 1, .null, []), 2, 161),
  (38, (.if_icmp .ge 7, 41, 45, 0, .null, []), 0, 0),
  (41, (.iconst 1, 42, 0, 0, .int 1, []), 0, 0),
  (42, (.goto 4, 45, 46, 0, .null, []), 0, 0),
  (45, (.iconst 0, 46, 0, 0, .int 0, []), 0, 0),
  (46, (.istore_n 3, 47, 3, 0, .null, []), 0, 0),
  (47, (.aload_n 0, 48, 0, 0, .null, []), 0, 0),
  (48, (.getfield 10, 51, 4, 0, .null, []), 1, 154),
  (51, (.iload_n 2, 52, 2, 0, .null, []), 0, 0),
  (52, (.invokevirtual 198, 55, 41, 1, .null, []), 3, 111),
  (55, (.ifCond .le 9, 58, 64, 0, .null, []), 0, 0),
  (58, (.iload_n 3, 59, 3, 0, .null, []), 0, 0),
  (59, (.ifCond .eq 5, 62, 64, 0, .null, []), 0, 0),
  (62, (.iload_n 2, 63, 2, 0, .null, []), 0, 0),
  (63, (.istore_n 1, 64, 1, 0, .null, []), 0, 0),
  (64, (.iinc 2 1, 67, 2, 0, .int 1, []), 0, 0),
  (67, (.goto (-62), 70, 5, 0, .null, []), 0, 0),
  (70, (.iload_n 1, 71, 1, 0, .null, []), 0, 0),
  (71, (.bipush (-4), 73, 0, 0, .int (-4 : Int32), []), 0, 0),
  (73, (.if_icmp .ne 8, 76, 81, 0, .null, []), 0, 0),
  (76, (.bipush (-4), 78, 0, 0, .int (-4 : Int32), []), 0, 0),
  (78, (.goto 8, 81, 86, 0, .null, []), 0, 0),
  (81, (.aload_n 0, 82, 0, 0, .null, []), 0, 0),
  (82, (.iload_n 1, 83, 1, 0, .null, []), 0, 0),
  (83, (.invokevirtual 201, 86, 133, 1, .null, []), 3, 116),
  (86, (.ireturn, 87, 0, 0, .null, []), 0, 0)]
/-- ThreadBank.risk(I)I -/
def qc_112 : List qm_E := [
  (0, (.aload_n 0, 1, 0, 0, .null, []), 0, 0),
  (1, (.getfield 10, 4, 4, 0, .null, []), 1, 154),
  (4, (.iload_n 1, 5, 1, 0, .null, []), 0, 0),
  (5, (.invokevirtual 95, 8, 28, 1, .null, []), 2, 159),
  (8, (.ifCond .eq 16, 11, 24, 0, .null, []), 0, 0),
  (11, (.aload_n 0, 12, 0, 0, .null, []), 0, 0),
  (12, (.getfield 10, 15, 4, 0, .null, []), 1, 154),
  (15, (.iconst 1, 16, 0, 0, .int 1, []), 0, 0),
  (16, (.iload_n 1, 17, 1, 0, .null, []), 0, 0),
  (17, (.ishl, 18, 0, 0, .null, []), 0, 0),
  (18, (.invokevirtual 204, 21, 62, 1, .null, []), 3, 124),
  (21, (.goto 4, 24, 25, 0, .null, []), 0, 0),
  (24, (.iconst (-1), 25, 0, 0, .int (-1 : Int32), []), 0, 0),
  (25, (.ireturn, 26, 0, 0, .null, []), 0, 0)]
/-- ThreadBank.copies()I -/
def qc_113 : List qm_E := [
  (0, (.iconst 0, 1, 0, 0, .int 0, []), 0, 0),
  (1, (.istore_n 1, 2, 1, 0, .null, []), 0, 0),
  (2, (.iconst 0, 3, 0, 0, .int 0, []), 0, 0),
  (3, (.istore_n 2, 4, 2, 0, .null, []), 0, 0),
  (4, (.iconst 0, 5, 0, 0, .int 0, []), 0, 0),
  (5, (.istore_n 3, 6, 3, 0, .null, []), 0, 0),
  (6, (.iload_n 3, 7, 3, 0, .null, []), 0, 0),
  (7, (.aload_n 0, 8, 0, 0, .null, []), 0, 0),
  (8, (.getfield 10, 11, 4, 0, .null, []), 1, 154),
  (11, (.getfield 79, 14, 1, 6, .null, []), 1, 41),
  (14, (.if_icmp .ge 33, 17, 47, 0, .null, []), 0, 0),
  (17, (.iload_n 1, 18, 1, 0, .null, []), 0, 0),
  (18, (.aload_n 0, 19, 0, 0, .null, []), 0, 0),
  (19, (.getfield 10, 22, 4, 0, .null, []), 1, 154),
  (22, (.iconst 1, 23, 0, 0, .int 1, []), 0, 0),
  (23, (.iload_n 3, 24, 3, 0, .null, []), 0, 0),
  (24, (.ishl, 25, 0, 0, .null, []), 0, 0),
  (25, (.invokevirtual 204, 28, 62, 1, .null, []), 3, 124),
  (28, (.iadd, 29, 0, 0, .null, []), 0, 0),
  (29, (.istore_n 1, 30, 1, 0, .null, []), 0, 0),
  (30, (.iload_n 2, 31, 2, 0, .null, []), 0, 0),
  (31, (.aload_n 0, 32, 0, 0, .null, []), 0, 0),
  (32, (.getfield 10, 35, 4, 0, .null, []), 1, 154),
  (35, (.iload_n 3, 36, 3, 0, .null, []), 0, 0),
  (36, (.invokevirtual 198, 39, 41, 1, .null, []), 3, 111),
  (39, (.iadd, 40, 0, 0, .null, []), 0, 0),
  (40, (.istore_n 2, 41, 2, 0, .null, []), 0, 0),
  (41, (.iinc 3 1, 44, 3, 0, .int 1, []), 0, 0),
  (44, (.goto (-38), 47, 6, 0, .null, []), 0, 0),
  (47, (.iload_n 1, 48, 1, 0, .null, []), 0, 0),
  (48, (.iload_n 2, 49, 2, 0, .null, []), 0, 0),
  (49, (.if_icmp .gt 17, 52, 66, 0, .null, []), 0, 0),
  (52, (.iload_n 1, 53, 1, 0, .null, []), 0, 0),
  (53, (.bipush 10, 55, 0, 0, .int 10, []), 0, 0),
  (55, (.aload_n 0, 56, 0, 0, .null, []), 0, 0),
  (56, (.getfield 10, 59, 4, 0, .null, []), 1, 154),
  (59, (.getfield 82, 62, 1, 7, .null, []), 1, 43),
  (62, (.isub, 63, 0, 0, .null, []), 0, 0),
  (63, (.if_icmp .le 6, 66, 69, 0, .null, []), 0, 0),
  (66, (.bipush (-4), 68, 0, 0, .int (-4 : Int32), []), 0, 0),
  (68, (.ireturn, 69, 0, 0, .null, []), 0, 0),
  (69, (.iconst 0, 70, 0, 0, .int 0, []), 0, 0),
  (70, (.istore_n 3, 71, 3, 0, .null, []), 0, 0),
  (71, (.iload_n 3, 72, 3, 0, .null, []), 0, 0),
  (72, (.aload_n 0, 73, 0, 0, .null, []), 0, 0),
  (73, (.getfield 10, 76, 4, 0, .null, []), 1, 154),
  (76, (.getfield 79, 79, 1, 6, .null, []), 1, 41),
  (79, (.if_icmp .ge 35, 82, 114, 0, .null, []), 0, 0),
  (82, (.aload_n 0, 83, 0, 0, .null, []), 0, 0),
  (83, (.getfield 10, 86, 4, 0, .null, []), 1, 154),
  (86, (.iconst 1, 87, 0, 0, .int 1, []), 0, 0),
  (87, (.iload_n 3, 88, 3, 0, .null, []), 0, 0),
  (88, (.ishl, 89, 0, 0, .null, []), 0, 0),
  (89, (.invokevirtual 204, 92, 62, 1, .null, []), 3, 124),
  (92, (.iload_n 2, 93, 2, 0, .null, []), 0, 0),
  (93, (.aload_n 0, 94, 0, 0, .null, []), 0, 0),
  (94, (.getfield 10, 97, 4, 0, .null, []), 1, 154),
  (97, (.iload_n 3, 98, 3, 0, .null, []), 0, 0),
  (98, (.invokevirtual 198, 101, 41, 1, .null, []), 3, 111),
  (101, (.isub, 102, 0, 0, .null, []), 0, 0),
  (102, (.if_icmp .le 6, 105, 108, 0, .null, []), 0, 0),
  (105, (.bipush (-4), 107, 0, 0, .int (-4 : Int32), []), 0, 0),
  (107, (.ireturn, 108, 0, 0, .null, []), 0, 0),
  (108, (.iinc 3 1, 111, 3, 0, .int 1, []), 0, 0),
  (111, (.goto (-40), 114, 71, 0, .null, []), 0, 0),
  (114, (.iload_n 1, 115, 1, 0, .null, []), 0, 0),
  (115, (.ireturn, 116, 0, 0, .null, []), 0, 0)]
/-- ThreadBank.spare(I)I -/
def qc_114 : List qm_E := [
  (0, (.iload_n 1, 1, 1, 0, .null, []), 0, 0),
  (1, (.ifCond .lt 8, 4, 9, 0, .null, []), 0, 0),
  (4, (.iload_n 1, 5, 1, 0, .null, []), 0, 0),
  (5, (.iconst 1, 6, 0, 0, .int 1, []), 0, 0),
  (6, (.if_icmp .le 5, 9, 11, 0, .null, []), 0, 0),
  (9, (.iconst (-1), 10, 0, 0, .int (-1 : Int32), []), 0, 0),
  (10, (.ireturn, 11, 0, 0, .null, []), 0, 0),
  (11, (.iconst 0, 12, 0, 0, .int 0, []), 0, 0),
  (12, (.istore_n 2, 13, 2, 0, .null, []), 0, 0),
  (13, (.iconst 1, 14, 0, 0, .int 1, []), 0, 0),
  (14, (.istore_n 3, 15, 3, 0, .null, []), 0, 0),
  (15, (.iload_n 3, 16, 3, 0, .null, []), 0, 0),
  (16, (.iconst 1, 17, 0, 0, .int 1, []), 0, 0),
  (17, (.aload_n 0, 18, 0, 0, .null, []), 0, 0),
  (18, (.getfield 10, 21, 4, 0, .null, []), 1, 154),
  (21, (.getfield 79, 24, 1, 6, .null, []), 1, 41),
  (24, (.ishl, 25, 0, 0, .null, []), 0, 0),
  (25, (.if_icmp .ge 45, 28, 70, 0, .null, []), 0, 0),
  (28, (.iload_n 3, 29, 3, 0, .null, []), 0, 0),
  (29, (.invokestatic 207, 32, 0, 1, .null, []), 3, 147),
  (32, (.iload_n 2, 33, 2, 0, .null, []), 0, 0),
  (33, (.invokestatic 207, 36, 0, 1, .null, []), 3, 147),
  (36, (.if_icmp .le 7, 39, 43, 0, .null, []), 0, 0),
  (39, (.iconst 1, 40, 0, 0, .int 1, []), 0, 0),
  (40, (.goto 4, 43, 44, 0, .null, []), 0, 0),
  (43, (.iconst 0, 44, 0, 0, .int 0, []), 0, 0),
  (44, (.istore 4, 46, 4, 0, .null, []), 0, 0),
  (46, (.iload 4, 48, 4, 0, .null, []), 0, 0),
  (48, (.ifCond .eq 16, 51, 64, 0, .null, []), 0, 0),
  (51, (.aload_n 0, 52, 0, 0, .null, []), 0, 0),
  (52, (.getfield 10, 55, 4, 0, .null, []), 1, 154),
  (55, (.iload_n 3, 56, 3, 0, .null, []), 0, 0),
  (56, (.invokevirtual 204, 59, 62, 1, .null, []), 3, 124),
  (59, (.ifCond .ne 5, 62, 64, 0, .null, []), 0, 0),
  (62, (.iload_n 3, 63, 3, 0, .null, []), 0, 0),
  (63, (.istore_n 2, 64, 2, 0, .null, []), 0, 0),
  (64, (.iinc 3 1, 67, 3, 0, .int 1, []), 0, 0),
  (67, (.goto (-52), 70, 15, 0, .null, []), 0, 0),
  (70, (.iload_n 1, 71, 1, 0, .null, []), 0, 0),
  (71, (.ifCond .ne 10, 74, 81, 0, .null, []), 0, 0),
  (74, (.iload_n 2, 75, 2, 0, .null, []), 0, 0),
  (75, (.invokestatic 207, 78, 0, 1, .null, []), 3, 147),
  (78, (.goto 4, 81, 82, 0, .null, []), 0, 0),
  (81, (.iload_n 2, 82, 2, 0, .null, []), 0, 0),
  (82, (.ireturn, 83, 0, 0, .null, []), 0, 0)]
/-- ThreadBank.quarrel(I)I -/
def qc_115 : List qm_E := [
  (0, (.iload_n 1, 1, 1, 0, .null, []), 0, 0),
  (1, (.ifCond .lt 8, 4, 9, 0, .null, []), 0, 0),
  (4, (.iload_n 1, 5, 1, 0, .null, []), 0, 0),
  (5, (.iconst 1, 6, 0, 0, .int 1, []), 0, 0),
  (6, (.if_icmp .le 5, 9, 11, 0, .null, []), 0, 0),
  (9, (.iconst (-1), 10, 0, 0, .int (-1 : Int32), []), 0, 0),
  (10, (.ireturn, 11, 0, 0, .null, []), 0, 0),
  (11, (.iconst 0, 12, 0, 0, .int 0, []), 0, 0),
  (12, (.istore_n 2, 13, 2, 0, .null, []), 0, 0),
  (13, (.bipush (-4), 15, 0, 0, .int (-4 : Int32), []), 0, 0),
  (15, (.istore_n 3, 16, 3, 0, .null, []), 0, 0),
  (16, (.iconst 0, 17, 0, 0, .int 0, []), 0, 0),
  (17, (.istore 4, 19, 4, 0, .null, []), 0, 0),
  (19, (.iload 4, 21, 4, 0, .null, []), 0, 0),
  (21, (.aload_n 0, 22, 0, 0, .null, []), 0, 0),
  (22, (.getfield 10, 25, 4, 0, .null, []), 1, 154),
  (25, (.getfield 82, 28, 1, 7, .null, []), 1, 43),
  (28, (.if_icmp .ge 67, 31, 95, 0, .null, []), 0, 0),
  (31, (.iload 4, 33, 4, 0, .null, []), 0, 0),
  (33, (.iconst 1, 34, 0, 0, .int 1, []), 0, 0),
  (34, (.iadd, 35, 0, 0, .null, []), 0, 0),
  (35, (.istore 5, 37, 5, 0, .null, []), 0, 0),
  (37, (.iload 5, 39, 5, 0, .null, []), 0, 0),
  (39, (.aload_n 0, 40, 0, 0, .null, []), 0, 0),
  (40, (.getfield 10, 43, 4, 0, .null, []), 1, 154),
  (43, (.getfield 82, 46, 1, 7, .null, []), 1, 43),
  (46, (.if_icmp .ge 43, 49, 89, 0, .null, []), 0, 0),
  (49, (.aload_n 0, 50, 0, 0, .null, []), 0, 0),
  (50, (.getfield 10, 53, 4, 0, .null, []), 1, 154),
  (53, (.iload 4, 55, 4, 0, .null, []), 0, 0),
  (55, (.iload 5, 57, 5, 0, .null, []), 0, 0),
  (57, (.invokevirtual 212, 60, 63, 2, .null, []), 3, 157),
  (60, (.ifCond .eq 23, 63, 83, 0, .null, []), 0, 0),
  (63, (.iload_n 2, 64, 2, 0, .null, []), 0, 0),
  (64, (.ifCond .ne 14, 67, 78, 0, .null, []), 0, 0),
  (67, (.bipush 10, 69, 0, 0, .int 10, []), 0, 0),
  (69, (.iload 4, 71, 4, 0, .null, []), 0, 0),
  (71, (.imul, 72, 0, 0, .null, []), 0, 0),
  (72, (.iload 5, 74, 5, 0, .null, []), 0, 0),
  (74, (.iadd, 75, 0, 0, .null, []), 0, 0),
  (75, (.goto 4, 78, 79, 0, .null, []), 0, 0),
  (78, (.iload_n 3, 79, 3, 0, .null, []), 0, 0),
  (79, (.istore_n 3, 80, 3, 0, .null, []), 0, 0),
  (80, (.iinc 2 1, 83, 2, 0, .int 1, []), 0, 0),
  (83, (.iinc 5 1, 86, 5, 0, .int 1, []), 0, 0),
  (86, (.goto (-49), 89, 37, 0, .null, []), 0, 0),
  (89, (.iinc 4 1, 92, 4, 0, .int 1, []), 0, 0),
  (92, (.goto (-73), 95, 19, 0, .null, []), 0, 0),
  (95, (.iload_n 1, 96, 1, 0, .null, []), 0, 0),
  (96, (.ifCond .ne 7, 99, 103, 0, .null, []), 0, 0),
  (99, (.iload_n 2, 100, 2, 0, .null, []), 0, 0),
  (100, (.goto 4, 103, 104, 0, .null, []), 0, 0),
  (103, (.iload_n 3, 104, 3, 0, .null, []), 0, 0),
  (104, (.ireturn, 105, 0, 0, .null, []), 0, 0)]
/-- ThreadBank.kept(III)J -/
def qc_116 : List qm_E := [
  (0, (.iload_n 1, 1, 1, 0, .null, []), 0, 0),
  (1, (.invokestatic 216, 4, 136, 1, .null, []), 3, 165),
  (4, (.ifCond .eq 21, 7, 25, 0, .null, []), 0, 0),
  (7, (.aload_n 0, 8, 0, 0, .null, []), 0, 0),
  (8, (.getfield 10, 11, 4, 0, .null, []), 1, 154),
  (11, (.iload_n 2, 12, 2, 0, .null, []), 0, 0),
  (12, (.invokevirtual 120, 15, 29, 1, .null, []), 2, 205),
  (15, (.ifCond .eq 10, 18, 25, 0, .null, []), 0, 0),
  (18, (.iload_n 3, 19, 3, 0, .null, []), 0, 0),
  (19, (.invokestatic 219, 22, 137, 1, .null, []), 3, 168),
  (22, (.ifCond .ne 7, 25, 29, 0, .null, []), 0, 0),
  (25, (.ldc2_w 222, 28, 0, 0, .long (-1 : Int64), []), 3, 171),
  (28, (.lreturn, 29, 0, 0, .null, []), 0, 0),
  (29, (.lconst 1, 30, 0, 0, .long 1, []), 0, 0),
  (30, (.lstore 4, 32, 4, 0, .null, []), 0, 0),
  (32, (.lconst 1, 33, 0, 0, .long 1, []), 0, 0),
  (33, (.lstore 6, 35, 6, 0, .null, []), 0, 0),
  (35, (.iconst 0, 36, 0, 0, .int 0, []), 0, 0),
  (36, (.istore 8, 38, 8, 0, .null, []), 0, 0),
  (38, (.iload 8, 40, 8, 0, .null, []), 0, 0),
  (40, (.aload_n 0, 41, 0, 0, .null, []), 0, 0),
  (41, (.getfield 10, 44, 4, 0, .null, []), 1, 154),
  (44, (.getfield 82, 47, 1, 7, .null, []), 1, 43),
  (47, (.if_icmp .ge 46, 50, 93, 0, .null, []), 0, 0),
  (50, (.aload_n 0, 51, 0, 0, .null, []), 0, 0),
  (51, (.getfield 10, 54, 4, 0, .null, []), 1, 154),
  (54, (.iload_n 2, 55, 2, 0, .null, []), 0, 0),
  (55, (.iload 8, 57, 8, 0, .null, []), 0, 0),
  (57, (.invokevirtual 224, 60, 49, 2, .null, []), 3, 172),
  (60, (.ifCond .eq 27, 63, 87, 0, .null, []), 0, 0),
  (63, (.lload 4, 65, 4, 0, .null, []), 0, 0),
  (65, (.aload_n 0, 66, 0, 0, .null, []), 0, 0),
  (66, (.getfield 10, 69, 4, 0, .null, []), 1, 154),
  (69, (.iload 8, 71, 8, 0, .null, []), 0, 0),
  (71, (.iload_n 1, 72, 1, 0, .null, []), 0, 0),
  (72, (.invokevirtual 227, 75, 64, 2, .null, []), 3, 173),
  (75, (.i2l, 76, 0, 0, .null, []), 0, 0),
  (76, (.lmul, 77, 0, 0, .null, []), 0, 0),
  (77, (.lstore 4, 79, 4, 0, .null, []), 0, 0),
  (79, (.lload 6, 81, 6, 0, .null, []), 0, 0),
  (81, (.ldc2_w 230, 84, 0, 0, .long 20, []), 3, 177),
  (84, (.lmul, 85, 0, 0, .null, []), 0, 0),
  (85, (.lstore 6, 87, 6, 0, .null, []), 0, 0),
  (87, (.iinc 8 1, 90, 8, 0, .int 1, []), 0, 0),
  (90, (.goto (-52), 93, 38, 0, .null, []), 0, 0),
  (93, (.lload 6, 95, 6, 0, .null, []), 0, 0),
  (95, (.lload 4, 97, 4, 0, .null, []), 0, 0),
  (97, (.lsub, 98, 0, 0, .null, []), 0, 0),
  (98, (.lload 6, 100, 6, 0, .null, []), 0, 0),
  (100, (.iload_n 3, 101, 3, 0, .null, []), 0, 0),
  (101, (.invokestatic 232, 104, 139, 3, .null, []), 3, 178),
  (104, (.lreturn, 105, 0, 0, .null, []), 0, 0)]
/-- ThreadBank.slips(II)J -/
def qc_117 : List qm_E := [
  (0, (.iload_n 1, 1, 1, 0, .null, []), 0, 0),
  (1, (.invokestatic 216, 4, 136, 1, .null, []), 3, 165),
  (4, (.ifCond .eq 10, 7, 14, 0, .null, []), 0, 0),
  (7, (.iload_n 2, 8, 2, 0, .null, []), 0, 0),
  (8, (.invokestatic 219, 11, 137, 1, .null, []), 3, 168),
  (11, (.ifCond .ne 7, 14, 18, 0, .null, []), 0, 0),
  (14, (.ldc2_w 222, 17, 0, 0, .long (-1 : Int64), []), 3, 171),
  (17, (.lreturn, 18, 0, 0, .null, []), 0, 0),
  (18, (.lconst 0, 19, 0, 0, .long 0, []), 0, 0),
  (19, (.lstore_n 3, 20, 3, 0, .null, []), 0, 0),
  (20, (.iconst 0, 21, 0, 0, .int 0, []), 0, 0),
  (21, (.istore 5, 23, 5, 0, .null, []), 0, 0),
  (23, (.iload 5, 25, 5, 0, .null, []), 0, 0),
  (25, (.aload_n 0, 26, 0, 0, .null, []), 0, 0),
  (26, (.getfield 10, 29, 4, 0, .null, []), 1, 154),
  (29, (.getfield 82, 32, 1, 7, .null, []), 1, 43),
  (32, (.if_icmp .ge 23, 35, 55, 0, .null, []), 0, 0),
  (35, (.lload_n 3, 36, 3, 0, .null, []), 0, 0),
  (36, (.aload_n 0, 37, 0, 0, .null, []), 0, 0),
  (37, (.getfield 10, 40, 4, 0, .null, []), 1, 154),
  (40, (.iload 5, 42, 5, 0, .null, []), 0, 0),
  (42, (.iload_n 1, 43, 1, 0, .null, []), 0, 0),
  (43, (.invokevirtual 227, 46, 64, 2, .null, []), 3, 173),
  (46, (.i2l, 47, 0, 0, .null, []), 0, 0),
  (47, (.ladd, 48, 0, 0, .null, []), 0, 0),
  (48, (.lstore_n 3, 49, 3, 0, .null, []), 0, 0),
  (49, (.iinc 5 1, 52, 5, 0, .int 1, []), 0, 0),
  (52, (.goto (-29), 55, 23, 0, .null, []), 0, 0),
  (55, (.lload_n 3, 56, 3, 0, .null, []), 0, 0),
  (56, (.ldc2_w 230, 59, 0, 0, .long 20, []), 3, 177),
  (59, (.iload_n 2, 60, 2, 0, .null, []), 0, 0),
  (60, (.invokestatic 232, 63, 139, 3, .null, []), 3, 178),
  (63, (.lreturn, 64, 0, 0, .null, []), 0, 0)]
/-- ThreadBank.none(II)J -/
def qc_118 : List qm_E := [
  (0, (.iload_n 1, 1, 1, 0, .null, []), 0, 0),
  (1, (.invokestatic 216, 4, 136, 1, .null, []), 3, 165),
  (4, (.ifCond .eq 10, 7, 14, 0, .null, []), 0, 0),
  (7, (.iload_n 2, 8, 2, 0, .null, []), 0, 0),
  (8, (.invokestatic 219, 11, 137, 1, .null, []), 3, 168),
  (11, (.ifCond .ne 7, 14, 18, 0, .null, []), 0, 0),
  (14, (.ldc2_w 222, 17, 0, 0, .long (-1 : Int64), []), 3, 171),
  (17, (.lreturn, 18, 0, 0, .null, []), 0, 0),
  (18, (.lconst 1, 19, 0, 0, .long 1, []), 0, 0),
  (19, (.lstore_n 3, 20, 3, 0, .null, []), 0, 0),
  (20, (.lconst 1, 21, 0, 0, .long 1, []), 0, 0),
  (21, (.lstore 5, 23, 5, 0, .null, []), 0, 0),
  (23, (.iconst 0, 24, 0, 0, .int 0, []), 0, 0),
  (24, (.istore 7, 26, 7, 0, .null, []), 0, 0),
  (26, (.iload 7, 28, 7, 0, .null, []), 0, 0),
  (28, (.aload_n 0, 29, 0, 0, .null, []), 0, 0),
  (29, (.getfield 10, 32, 4, 0, .null, []), 1, 154),
  (32, (.getfield 82, 35, 1, 7, .null, []), 1, 43),
  (35, (.if_icmp .ge 34, 38, 69, 0, .null, []), 0, 0),
  (38, (.lload_n 3, 39, 3, 0, .null, []), 0, 0),
  (39, (.bipush 20, 41, 0, 0, .int 20, []), 0, 0),
  (41, (.aload_n 0, 42, 0, 0, .null, []), 0, 0),
  (42, (.getfield 10, 45, 4, 0, .null, []), 1, 154),
  (45, (.iload 7, 47, 7, 0, .null, []), 0, 0),
  (47, (.iload_n 1, 48, 1, 0, .null, []), 0, 0),
  (48, (.invokevirtual 227, 51, 64, 2, .null, []), 3, 173),
  (51, (.isub, 52, 0, 0, .null, []), 0, 0),
  (52, (.i2l, 53, 0, 0, .null, []), 0, 0),
  (53, (.lmul, 54, 0, 0, .null, []), 0, 0),
  (54, (.lstore_n 3, 55, 3, 0, .null, []), 0, 0),
  (55, (.lload 5, 57, 5, 0, .null, []), 0, 0),
  (57, (.ldc2_w 230, 60, 0, 0, .long 20, []), 3, 177),
  (60, (.lmul, 61, 0, 0, .null, []), 0, 0),
  (61, (.lstore 5, 63, 5, 0, .null, []), 0, 0),
  (63, (.iinc 7 1, 66, 7, 0, .int 1, []), 0, 0),
  (66, (.goto (-40), 69, 26, 0, .null, []), 0, 0),
  (69, (.lload_n 3, 70, 3, 0, .null, []), 0, 0),
  (70, (.lload 5, 72, 5, 0, .null, []), 0, 0),
  (72, (.iload_n 2, 73, 2, 0, .null, []), 0, 0),
  (73, (.invokestatic 232, 76, 139, 3, .null, []), 3, 178),
  (76, (.lreturn, 77, 0, 0, .null, []), 0, 0)]
/-- ThreadBank.see(II)I -/
def qc_119 : List qm_E := [
  (0, (.aload_n 0, 1, 0, 0, .null, []), 0, 0),
  (1, (.getfield 10, 4, 4, 0, .null, []), 1, 154),
  (4, (.iload_n 1, 5, 1, 0, .null, []), 0, 0),
  (5, (.invokevirtual 156, 8, 31, 1, .null, []), 3, 10),
  (8, (.ifCond .eq 13, 11, 21, 0, .null, []), 0, 0),
  (11, (.iload_n 2, 12, 2, 0, .null, []), 0, 0),
  (12, (.ifCond .lt 9, 15, 21, 0, .null, []), 0, 0),
  (15, (.iload_n 2, 16, 2, 0, .null, []), 0, 0),
  (16, (.bipush 99, 18, 0, 0, .int 99, []), 0, 0),
  (18, (.if_icmp .le 5, 21, 23, 0, .null, []), 0, 0),
  (21, (.iconst (-1), 22, 0, 0, .int (-1 : Int32), []), 0, 0),
  (22, (.ireturn, 23, 0, 0, .null, []), 0, 0),
  (23, (.aload_n 0, 24, 0, 0, .null, []), 0, 0),
  (24, (.getfield 10, 27, 4, 0, .null, []), 1, 154),
  (27, (.iload_n 1, 28, 1, 0, .null, []), 0, 0),
  (28, (.iload_n 2, 29, 2, 0, .null, []), 0, 0),
  (29, (.invokevirtual 236, 32, 46, 2, .null, []), 3, 196),
  (32, (.ifCond .eq 13, 35, 45, 0, .null, []), 0, 0),
  (35, (.aload_n 0, 36, 0, 0, .null, []), 0, 0),
  (36, (.getfield 10, 39, 4, 0, .null, []), 1, 154),
  (39, (.getfield 239, 42, 1, 9, .null, []), 1, 49),
  (42, (.goto 5, 45, 47, 0, .null, []), 0, 0),
  (45, (.bipush (-3), 47, 0, 0, .int (-3 : Int32), []), 0, 0),
  (47, (.ireturn, 48, 0, 0, .null, []), 0, 0)]
/-- ThreadBank.forget(I)I -/
def qc_120 : List qm_E := [
  (0, (.iload_n 1, 1, 1, 0, .null, []), 0, 0),
  (1, (.ifCond .lt 14, 4, 15, 0, .null, []), 0, 0),
  (4, (.iload_n 1, 5, 1, 0, .null, []), 0, 0),
  (5, (.aload_n 0, 6, 0, 0, .null, []), 0, 0),
  (6, (.getfield 10, 9, 4, 0, .null, []), 1, 154),
  (9, (.getfield 239, 12, 1, 9, .null, []), 1, 49),
  (12, (.if_icmp .le 5, 15, 17, 0, .null, []), 0, 0),
  (15, (.iconst (-1), 16, 0, 0, .int (-1 : Int32), []), 0, 0),
  (16, (.ireturn, 17, 0, 0, .null, []), 0, 0),
  (17, (.aload_n 0, 18, 0, 0, .null, []), 0, 0),
  (18, (.getfield 10, 21, 4, 0, .null, []), 1, 154),
  (21, (.getfield 239, 24, 1, 9, .null, []), 1, 49),
  (24, (.istore_n 2, 25, 2, 0, .null, []), 0, 0),
  (25, (.aload_n 0, 26, 0, 0, .null, []), 0, 0),
  (26, (.getfield 10, 29, 4, 0, .null, []), 1, 154),
  (29, (.iload_n 1, 30, 1, 0, .null, []), 0, 0),
  (30, (.putfield 239, 33, 1, 9, .null, []), 1, 49),
  (33, (.iload_n 2, 34, 2, 0, .null, []), 0, 0),
  (34, (.ireturn, 35, 0, 0, .null, []), 0, 0)]
/-- ThreadBank.fits(I)I -/
def qc_121 : List qm_E := [
  (0, (.iload_n 1, 1, 1, 0, .null, []), 0, 0),
  (1, (.ifCond .lt 8, 4, 9, 0, .null, []), 0, 0),
  (4, (.iload_n 1, 5, 1, 0, .null, []), 0, 0),
  (5, (.iconst 4, 6, 0, 0, .int 4, []), 0, 0),
  (6, (.if_icmp .le 5, 9, 11, 0, .null, []), 0, 0),
  (9, (.iconst (-1), 10, 0, 0, .int (-1 : Int32), []), 0, 0),
  (10, (.ireturn, 11, 0, 0, .null, []), 0, 0),
  (11, (.aload_n 0, 12, 0, 0, .null, []), 0, 0),
  (12, (.getfield 10, 15, 4, 0, .null, []), 1, 154),
  (15, (.invokevirtual 242, 18, 34, 0, .null, []), 3, 208),
  (18, (.istore_n 2, 19, 2, 0, .null, []), 0, 0),
  (19, (.iconst 0, 20, 0, 0, .int 0, []), 0, 0),
  (20, (.istore_n 3, 21, 3, 0, .null, []), 0, 0),
  (21, (.iconst 0, 22, 0, 0, .int 0, []), 0, 0),
  (22, (.istore 4, 24, 4, 0, .null, []), 0, 0),
  (24, (.iload_n 2, 25, 2, 0, .null, []), 0, 0),
  (25, (.istore 5, 27, 5, 0, .null, []), 0, 0),
  (27, (.iconst 0, 28, 0, 0, .int 0, []), 0, 0),
  (28, (.istore 6, 30, 6, 0, .null, []), 0, 0),
  (30, (.bipush 10, 32, 0, 0, .int 10, []), 0, 0),
  (32, (.istore 7, 34, 7, 0, .null, []), 0, 0),
  (34, (.aload_n 0, 35, 0, 0, .null, []), 0, 0),
  (35, (.getfield 10, 38, 4, 0, .null, []), 1, 154),
  (38, (.aload_n 0, 39, 0, 0, .null, []), 0, 0),
  (39, (.getfield 47, 42, 4, 7, .null, []), 1, 161),
  (42, (.invokevirtual 245, 45, 56, 1, .null, []), 3, 212),
  (45, (.iconst 0, 46, 0, 0, .int 0, []), 0, 0),
  (46, (.istore 8, 48, 8, 0, .null, []), 0, 0),
  (48, (.iload 8, 50, 8, 0, .null, []), 0, 0),
  (50, (.iload_n 2, 51, 2, 0, .null, []), 0, 0),
  (51, (.if_icmp .gt 67, 54, 118, 0, .null, []), 0, 0),
  (54, (.aload_n 0, 55, 0, 0, .null, []), 0, 0),
  (55, (.getfield 10, 58, 4, 0, .null, []), 1, 154),
  (58, (.iload 8, 60, 8, 0, .null, []), 0, 0),
  (60, (.aload_n 0, 61, 0, 0, .null, []), 0, 0),
  (61, (.getfield 47, 64, 4, 7, .null, []), 1, 161),
  (64, (.invokevirtual 249, 67, 58, 2, .null, []), 3, 216),
  (67, (.ifCond .eq 45, 70, 112, 0, .null, []), 0, 0),
  (70, (.iload_n 3, 71, 3, 0, .null, []), 0, 0),
  (71, (.ifCond .ne 8, 74, 79, 0, .null, []), 0, 0),
  (74, (.iload 8, 76, 8, 0, .null, []), 0, 0),
  (76, (.goto 5, 79, 81, 0, .null, []), 0, 0),
  (79, (.iload 4, 81, 4, 0, .null, []), 0, 0),
  (81, (.istore 4, 83, 4, 0, .null, []), 0, 0),
  (83, (.iinc 3 1, 86, 3, 0, .int 1, []), 0, 0),
  (86, (.iload 5, 88, 5, 0, .null, []), 0, 0),
  (88, (.iload 8, 90, 8, 0, .null, []), 0, 0),
  (90, (.iand, 91, 0, 0, .null, []), 0, 0),
  (91, (.istore 5, 93, 5, 0, .null, []), 0, 0),
  (93, (.iload 6, 95, 6, 0, .null, []), 0, 0),
  (95, (.iload 8, 97, 8, 0, .null, []), 0, 0),
  (97, (.ior, 98, 0, 0, .null, []), 0, 0),
  (98, (.istore 6, 100, 6, 0, .null, []), 0, 0),
  (100, (.iload 7, 102, 7, 0, .null, []), 0, 0),
  (102, (.iload 8, 104, 8, 0, .null, []), 0, 0),
  (104, (.invokestatic 207, 107, 0, 1, .null, []), 3, 147),
  (107, (.invokestatic 253, 110, 2, 2, .null, []), 3, 224),
  (110, (.istore 7, 112, 7, 0, .null, []), 0, 0),
  (112, (.iinc 8 1, 115, 8, 0, .int 1, []), 0, 0),
  (115, (.goto (-67), 118, 48, 0, .null, []), 0, 0),
  (118, (.iload_n 1, 119, 1, 0, .null, []), 0, 0),
  (119, (.ifCond .ne 5, 122, 124, 0, .null, []), 0, 0),
  (122, (.iload_n 3, 123, 3, 0, .null, []), 0, 0),
  (123, (.ireturn, 124, 0, 0, .null, []), 0, 0),
  (124, (.iload_n 3, 125, 3, 0, .null, []), 0, 0),
  (125, (.ifCond .ne 6, 128, 131, 0, .null, []), 0, 0),
  (128, (.bipush (-4), 130, 0, 0, .int (-4 : Int32), []), 0, 0),
  (130, (.ireturn, 131, 0, 0, .null, []), 0, 0),
  (131, (.iload_n 1, 132, 1, 0, .null, []), 0, 0),
  (132, (.tableswitch 41 1 3 #[28, 31, 34], 160, 173, 0, .null, [(1, 160), (2, 163), (3, 166)]), 0, 0),
  (160, (.iload 4, 162, 4, 0, .null, []), 0, 0),
  (162, (.ireturn, 163, 0, 0, .null, []), 0, 0),
  (163, (.iload 5, 165, 5, 0, .null, []), 0, 0),
  (165, (.ireturn, 166, 0, 0, .null, []), 0, 0),
  (166, (.iload_n 2, 167, 2, 0, .null, []), 0, 0),
  (167, (.iload 6, 169, 6, 0, .null, []), 0, 0),
  (169, (.iconst (-1), 170, 0, 0, .int (-1 : Int32), []), 0, 0),
  (170, (.ixor, 171, 0, 0, .null, []), 0, 0),
  (171, (.iand, 172, 0, 0, .null, []), 0, 0),
  (172, (.ireturn, 173, 0, 0, .null, []), 0, 0),
  (173, (.iload 7, 175, 7, 0, .null, []), 0, 0),
  (175, (.ireturn, 176, 0, 0, .null, []), 0, 0)]
/-- ThreadBank.drift(III)I -/
def qc_122 : List qm_E := [
  (0, (.iload_n 2, 1, 2, 0, .null, []), 0, 0),
  (1, (.iconst 1, 2, 0, 0, .int 1, []), 0, 0),
  (2, (.if_icmp .lt 16, 5, 18, 0, .null, []), 0, 0),
  (5, (.iload_n 2, 6, 2, 0, .null, []), 0, 0),
  (6, (.bipush 20, 8, 0, 0, .int 20, []), 0, 0),
  (8, (.if_icmp .gt 10, 11, 18, 0, .null, []), 0, 0),
  (11, (.iload_n 3, 12, 3, 0, .null, []), 0, 0),
  (12, (.invokestatic 216, 15, 136, 1, .null, []), 3, 165),
  (15, (.ifCond .ne 5, 18, 20, 0, .null, []), 0, 0),
  (18, (.iconst (-1), 19, 0, 0, .int (-1 : Int32), []), 0, 0),
  (19, (.ireturn, 20, 0, 0, .null, []), 0, 0),
  (20, (.aload_n 0, 21, 0, 0, .null, []), 0, 0),
  (21, (.getfield 10, 24, 4, 0, .null, []), 1, 154),
  (24, (.invokevirtual 242, 27, 34, 0, .null, []), 3, 208),
  (27, (.istore 4, 29, 4, 0, .null, []), 0, 0),
  (29, (.iload_n 1, 30, 1, 0, .null, []), 0, 0),
  (30, (.istore 5, 32, 5, 0, .null, []), 0, 0),
  (32, (.iconst 0, 33, 0, 0, .int 0, []), 0, 0),
  (33, (.istore 6, 35, 6, 0, .null, []), 0, 0),
  (35, (.iload 6, 37, 6, 0, .null, []), 0, 0),
  (37, (.iload_n 2, 38, 2, 0, .null, []), 0, 0),
  (38, (.if_icmp .ge 105, 41, 143, 0, .null, []), 0, 0),
  (41, (.iconst 0, 42, 0, 0, .int 0, []), 0, 0),
  (42, (.istore 7, 44, 7, 0, .null, []), 0, 0),
  (44, (.iload 7, 46, 7, 0, .null, []), 0, 0),
  (46, (.aload_n 0, 47, 0, 0, .null, []), 0, 0),
  (47, (.getfield 10, 50, 4, 0, .null, []), 1, 154),
  (50, (.getfield 82, 53, 1, 7, .null, []), 1, 43),
  (53, (.if_icmp .ge 84, 56, 137, 0, .null, []), 0, 0),
  (56, (.iload 4, 58, 4, 0, .null, []), 0, 0),
  (58, (.iload 7, 60, 7, 0, .null, []), 0, 0),
  (60, (.invokestatic 258, 63, 138, 2, .null, []), 3, 229),
  (63, (.ifCond .eq 68, 66, 131, 0, .null, []), 0, 0),
  (66, (.iload 5, 68, 5, 0, .null, []), 0, 0),
  (68, (.ldc_w 261, 71, 0, 0, .int 1103515245, []), 3, 230),
  (71, (.imul, 72, 0, 0, .null, []), 0, 0),
  (72, (.sipush 12345, 75, 0, 0, .int 12345, []), 0, 0),
  (75, (.iadd, 76, 0, 0, .null, []), 0, 0),
  (76, (.istore 5, 78, 5, 0, .null, []), 0, 0),
  (78, (.iload 5, 80, 5, 0, .null, []), 0, 0),
  (80, (.bipush 16, 82, 0, 0, .int 16, []), 0, 0),
  (82, (.iushr, 83, 0, 0, .null, []), 0, 0),
  (83, (.sipush 32767, 86, 0, 0, .int 32767, []), 0, 0),
  (86, (.iand, 87, 0, 0, .null, []), 0, 0),
  (87, (.bipush 20, 89, 0, 0, .int 20, []), 0, 0),
  (89, (.irem, 90, 0, 0, .null, []), 0, 0),
  (90, (.aload_n 0, 91, 0, 0, .null, []), 0, 0),
  (91, (.getfield 10, 94, 4, 0, .null, []), 1, 154),
  (94, (.iload 7, 96, 7, 0, .null, []), 0, 0),
  (96, (.iload_n 3, 97, 3, 0, .null, []), 0, 0),
  (97, (.invokevirtual 227, 100, 64, 2, .null, []), 3, 173),
  (100, (.if_icmp .ge 7, 103, 107, 0, .null, []), 0, 0),
  (103, (.iconst 1, 104, 0, 0, .int 1, []), 0, 0),
  (104, (.goto 4, 107, 108, 0, .null, []), 0, 0),
  (107, (.iconst 0, 108, 0, 0, .int 0, []), 0, 0),
  (108, (.istore 8, 110, 8, 0, .null, []), 0, 0),
  (110, (.iload 8, 112, 8, 0, .null, []), 0, 0),
  (112, (.ifCond .eq 15, 115, 127, 0, .null, []), 0, 0),
  (115, (.iload 4, 117, 4, 0, .null, []), 0, 0),
  (117, (.iconst 1, 118, 0, 0, .int 1, []), 0, 0),
  (118, (.iload 7, 120, 7, 0, .null, []), 0, 0),
  (120, (.ishl, 121, 0, 0, .null, []), 0, 0),
  (121, (.iconst (-1), 122, 0, 0, .int (-1 : Int32), []), 0, 0),
  (122, (.ixor, 123, 0, 0, .null, []), 0, 0),
  (123, (.iand, 124, 0, 0, .null, []), 0, 0),
  (124, (.goto 5, 127, 129, 0, .null, []), 0, 0),
  (127, (.iload 4, 129, 4, 0, .null, []), 0, 0),
  (129, (.istore 4, 131, 4, 0, .null, []), 0, 0),
  (131, (.iinc 7 1, 134, 7, 0, .int 1, []), 0, 0),
  (134, (.goto (-90), 137, 44, 0, .null, []), 0, 0),
  (137, (.iinc 6 1, 140, 6, 0, .int 1, []), 0, 0),
  (140, (.goto (-105), 143, 35, 0, .null, []), 0, 0),
  (143, (.iload 4, 145, 4, 0, .null, []), 0, 0),
  (145, (.ireturn, 146, 0, 0, .null, []), 0, 0)]
/-- ThreadBank.keep(I)I -/
def qc_123 : List qm_E := [
  (0, (.iload_n 1, 1, 1, 0, .null, []), 0, 0),
  (1, (.invokestatic 262, 4, 135, 1, .null, []), 3, 235),
  (4, (.ifCond .ne 5, 7, 9, 0, .null, []), 0, 0),
  (7, (.iconst (-1), 8, 0, 0, .int (-1 : Int32), []), 0, 0),
  (8, (.ireturn, 9, 0, 0, .null, []), 0, 0),
  (9, (.aload_n 0, 10, 0, 0, .null, []), 0, 0),
  (10, (.getfield 22, 13, 4, 3, .null, []), 1, 157),
  (13, (.iload_n 1, 14, 1, 0, .null, []), 0, 0),
  (14, (.baload, 15, 0, 0, .null, []), 0, 0),
  (15, (.ifCond .eq 7, 18, 22, 0, .null, []), 0, 0),
  (18, (.iconst 1, 19, 0, 0, .int 1, []), 0, 0),
  (19, (.goto 4, 22, 23, 0, .null, []), 0, 0),
  (22, (.iconst 0, 23, 0, 0, .int 0, []), 0, 0),
  (23, (.istore_n 2, 24, 2, 0, .null, []), 0, 0),
  (24, (.aload_n 0, 25, 0, 0, .null, []), 0, 0),
  (25, (.iload_n 1, 26, 1, 0, .null, []), 0, 0),
  (26, (.invokevirtual 265, 29, 134, 1, .null, []), 3, 238),
  (29, (.aload_n 0, 30, 0, 0, .null, []), 0, 0),
  (30, (.getfield 10, 33, 4, 0, .null, []), 1, 154),
  (33, (.invokevirtual 69, 36, 23, 1, .null, []), 2, 128),
  (36, (.aload_n 0, 37, 0, 0, .null, []), 0, 0),
  (37, (.getfield 22, 40, 4, 3, .null, []), 1, 157),
  (40, (.iload_n 1, 41, 1, 0, .null, []), 0, 0),
  (41, (.iconst 1, 42, 0, 0, .int 1, []), 0, 0),
  (42, (.bastore, 43, 0, 0, .null, []), 0, 0),
  (43, (.iload_n 2, 44, 2, 0, .null, []), 0, 0),
  (44, (.ireturn, 45, 0, 0, .null, []), 0, 0)]
/-- ThreadBank.back(I)I -/
def qc_124 : List qm_E := [
  (0, (.iload_n 1, 1, 1, 0, .null, []), 0, 0),
  (1, (.invokestatic 262, 4, 135, 1, .null, []), 3, 235),
  (4, (.ifCond .ne 5, 7, 9, 0, .null, []), 0, 0),
  (7, (.iconst (-1), 8, 0, 0, .int (-1 : Int32), []), 0, 0),
  (8, (.ireturn, 9, 0, 0, .null, []), 0, 0),
  (9, (.aload_n 0, 10, 0, 0, .null, []), 0, 0),
  (10, (.getfield 22, 13, 4, 3, .null, []), 1, 157),
  (13, (.iload_n 1, 14, 1, 0, .null, []), 0, 0),
  (14, (.baload, 15, 0, 0, .null, []), 0, 0),
  (15, (.ifCond .ne 6, 18, 21, 0, .null, []), 0, 0),
  (18, (.bipush (-2), 20, 0, 0, .int (-2 : Int32), []), 0, 0),
  (20, (.ireturn, 21, 0, 0, .null, []), 0, 0),
  (21, (.aload_n 0, 22, 0, 0, .null, []), 0, 0),
  (22, (.getfield 10, 25, 4, 0, .null, []), 1, 154),
  (25, (.aload_n 0, 26, 0, 0, .null, []), 0, 0),
  (26, (.iload_n 1, 27, 1, 0, .null, []), 0, 0),
  (27, (.invokevirtual 265, 30, 134, 1, .null, []), 3, 238),
  (30, (.invokevirtual 69, 33, 23, 1, .null, []), 2, 128),
  (33, (.aload_n 0, 34, 0, 0, .null, []), 0, 0),
  (34, (.getfield 10, 37, 4, 0, .null, []), 1, 154),
  (37, (.getfield 82, 40, 1, 7, .null, []), 1, 43),
  (40, (.ireturn, 41, 0, 0, .null, []), 0, 0)]
/-- ThreadBank.sheet(III)I -/
def qc_125 : List qm_E := [
  (0, (.iload_n 1, 1, 1, 0, .null, []), 0, 0),
  (1, (.invokestatic 269, 4, 65, 1, .null, []), 4, 10),
  (4, (.ifCond .eq 16, 7, 20, 0, .null, []), 0, 0),
  (7, (.iload_n 2, 8, 2, 0, .null, []), 0, 0),
  (8, (.invokestatic 272, 11, 66, 1, .null, []), 4, 13),
  (11, (.ifCond .eq 9, 14, 20, 0, .null, []), 0, 0),
  (14, (.iload_n 3, 15, 3, 0, .null, []), 0, 0),
  (15, (.bipush 40, 17, 0, 0, .int 40, []), 0, 0),
  (17, (.if_icmp .le 5, 20, 22, 0, .null, []), 0, 0),
  (20, (.iconst (-1), 21, 0, 0, .int (-1 : Int32), []), 0, 0),
  (21, (.ireturn, 22, 0, 0, .null, []), 0, 0),
  (22, (.iload_n 3, 23, 3, 0, .null, []), 0, 0),
  (23, (.ifCond .ge 6, 26, 29, 0, .null, []), 0, 0),
  (26, (.bipush (-14), 28, 0, 0, .int (-14 : Int32), []), 0, 0),
  (28, (.ireturn, 29, 0, 0, .null, []), 0, 0),
  (29, (.aload_n 0, 30, 0, 0, .null, []), 0, 0),
  (30, (.getfield 43, 33, 4, 6, .null, []), 1, 160),
  (33, (.iload_n 1, 34, 1, 0, .null, []), 0, 0),
  (34, (.iload_n 2, 35, 2, 0, .null, []), 0, 0),
  (35, (.iload_n 3, 36, 3, 0, .null, []), 0, 0),
  (36, (.invokevirtual 275, 39, 70, 3, .null, []), 4, 16),
  (39, (.iconst 1, 40, 0, 0, .int 1, []), 0, 0),
  (40, (.ireturn, 41, 0, 0, .null, []), 0, 0)]
/-- ThreadBank.lay(III)I -/
def qc_126 : List qm_E := [
  (0, (.iload_n 1, 1, 1, 0, .null, []), 0, 0),
  (1, (.invokestatic 269, 4, 65, 1, .null, []), 4, 10),
  (4, (.ifCond .ne 5, 7, 9, 0, .null, []), 0, 0),
  (7, (.iconst (-1), 8, 0, 0, .int (-1 : Int32), []), 0, 0),
  (8, (.ireturn, 9, 0, 0, .null, []), 0, 0),
  (9, (.aload_n 0, 10, 0, 0, .null, []), 0, 0),
  (10, (.getfield 43, 13, 4, 6, .null, []), 1, 160),
  (13, (.iload_n 1, 14, 1, 0, .null, []), 0, 0),
  (14, (.invokevirtual 279, 17, 67, 1, .null, []), 4, 25),
  (17, (.ifCond .eq 6, 20, 23, 0, .null, []), 0, 0),
  (20, (.bipush (-11), 22, 0, 0, .int (-11 : Int32), []), 0, 0),
  (22, (.ireturn, 23, 0, 0, .null, []), 0, 0),
  (23, (.aload_n 0, 24, 0, 0, .null, []), 0, 0),
  (24, (.getfield 43, 27, 4, 6, .null, []), 1, 160),
  (27, (.iload_n 1, 28, 1, 0, .null, []), 0, 0),
  (28, (.iload_n 2, 29, 2, 0, .null, []), 0, 0),
  (29, (.invokevirtual 282, 32, 68, 2, .null, []), 4, 29),
  (32, (.ifCond .ne 6, 35, 38, 0, .null, []), 0, 0),
  (35, (.bipush (-12), 37, 0, 0, .int (-12 : Int32), []), 0, 0),
  (37, (.ireturn, 38, 0, 0, .null, []), 0, 0),
  (38, (.aload_n 0, 39, 0, 0, .null, []), 0, 0),
  (39, (.getfield 43, 42, 4, 6, .null, []), 1, 160),
  (42, (.iload_n 1, 43, 1, 0, .null, []), 0, 0),
  (43, (.iload_n 2, 44, 2, 0, .null, []), 0, 0),
  (44, (.iload_n 3, 45, 3, 0, .null, []), 0, 0),
  (45, (.invokevirtual 285, 48, 71, 3, .null, []), 4, 34),
  (48, (.iconst 1, 49, 0, 0, .int 1, []), 0, 0),
  (49, (.ireturn, 50, 0, 0, .null, []), 0, 0)]
/-- ThreadBank.read(IIII)I -/
def qc_127 : List qm_E := [
  (0, (.iload_n 1, 1, 1, 0, .null, []), 0, 0),
  (1, (.invokestatic 269, 4, 65, 1, .null, []), 4, 10),
  (4, (.ifCond .eq 22, 7, 26, 0, .null, []), 0, 0),
  (7, (.iload_n 2, 8, 2, 0, .null, []), 0, 0),
  (8, (.invokestatic 272, 11, 66, 1, .null, []), 4, 13),
  (11, (.ifCond .eq 15, 14, 26, 0, .null, []), 0, 0),
  (14, (.iload 4, 16, 4, 0, .null, []), 0, 0),
  (16, (.ifCond .lt 10, 19, 26, 0, .null, []), 0, 0),
  (19, (.iload 4, 21, 4, 0, .null, []), 0, 0),
  (21, (.bipush 10, 23, 0, 0, .int 10, []), 0, 0),
  (23, (.if_icmp .le 5, 26, 28, 0, .null, []), 0, 0),
  (26, (.iconst (-1), 27, 0, 0, .int (-1 : Int32), []), 0, 0),
  (27, (.ireturn, 28, 0, 0, .null, []), 0, 0),
  (28, (.aload_n 0, 29, 0, 0, .null, []), 0, 0),
  (29, (.getfield 43, 32, 4, 6, .null, []), 1, 160),
  (32, (.iload_n 1, 33, 1, 0, .null, []), 0, 0),
  (33, (.iload_n 2, 34, 2, 0, .null, []), 0, 0),
  (34, (.invokevirtual 288, 37, 73, 2, .null, []), 4, 46),
  (37, (.istore 5, 39, 5, 0, .null, []), 0, 0),
  (39, (.aload_n 0, 40, 0, 0, .null, []), 0, 0),
  (40, (.getfield 10, 43, 4, 0, .null, []), 1, 154),
  (43, (.getfield 82, 46, 1, 7, .null, []), 1, 43),
  (46, (.istore 6, 48, 6, 0, .null, []), 0, 0),
  (48, (.iconst 0, 49, 0, 0, .int 0, []), 0, 0),
  (49, (.istore 7, 51, 7, 0, .null, []), 0, 0),
  (51, (.iload 7, 53, 7, 0, .null, []), 0, 0),
  (53, (.iload 4, 55, 4, 0, .null, []), 0, 0),
  (55, (.if_icmp .ge 64, 58, 119, 0, .null, []), 0, 0),
  (58, (.iload 5, 60, 5, 0, .null, []), 0, 0),
  (60, (.ifCond .ne 59, 63, 119, 0, .null, []), 0, 0),
  (63, (.iload_n 3, 64, 3, 0, .null, []), 0, 0),
  (64, (.iconst 3, 65, 0, 0, .int 3, []), 0, 0),
  (65, (.iload 7, 67, 7, 0, .null, []), 0, 0),
  (67, (.imul, 68, 0, 0, .null, []), 0, 0),
  (68, (.iadd, 69, 0, 0, .null, []), 0, 0),
  (69, (.istore 8, 71, 8, 0, .null, []), 0, 0),
  (71, (.aload_n 0, 72, 0, 0, .null, []), 0, 0),
  (72, (.getfield 43, 75, 4, 6, .null, []), 1, 160),
  (75, (.iload_n 1, 76, 1, 0, .null, []), 0, 0),
  (76, (.iload 8, 78, 8, 0, .null, []), 0, 0),
  (78, (.invokevirtual 291, 81, 74, 2, .null, []), 4, 50),
  (81, (.istore 5, 83, 5, 0, .null, []), 0, 0),
  (83, (.iload 5, 85, 5, 0, .null, []), 0, 0),
  (85, (.ifCond .ne 28, 88, 113, 0, .null, []), 0, 0),
  (88, (.aload_n 0, 89, 0, 0, .null, []), 0, 0),
  (89, (.iload_n 1, 90, 1, 0, .null, []), 0, 0),
  (90, (.iload 8, 92, 8, 0, .null, []), 0, 0),
  (92, (.invokevirtual 294, 95, 130, 2, .null, []), 4, 54),
  (95, (.ifCond .ne 18, 98, 113, 0, .null, []), 0, 0),
  (98, (.aload_n 0, 99, 0, 0, .null, []), 0, 0),
  (99, (.getfield 10, 102, 4, 0, .null, []), 1, 154),
  (102, (.iload 6, 104, 6, 0, .null, []), 0, 0),
  (104, (.putfield 82, 107, 1, 7, .null, []), 1, 43),
  (107, (.bipush (-20), 109, 0, 0, .int (-20 : Int32), []), 0, 0),
  (109, (.iload 7, 111, 7, 0, .null, []), 0, 0),
  (111, (.isub, 112, 0, 0, .null, []), 0, 0),
  (112, (.ireturn, 113, 0, 0, .null, []), 0, 0),
  (113, (.iinc 7 1, 116, 7, 0, .int 1, []), 0, 0),
  (116, (.goto (-65), 119, 51, 0, .null, []), 0, 0),
  (119, (.aload_n 0, 120, 0, 0, .null, []), 0, 0),
  (120, (.iload 5, 122, 5, 0, .null, []), 0, 0),
  (122, (.putfield 297, 125, 4, 8, .null, []), 1, 162),
  (125, (.aload_n 0, 126, 0, 0, .null, []), 0, 0),
  (126, (.getfield 10, 129, 4, 0, .null, []), 1, 154),
  (129, (.getfield 82, 132, 1, 7, .null, []), 1, 43),
  (132, (.iload 6, 134, 6, 0, .null, []), 0, 0),
  (134, (.isub, 135, 0, 0, .null, []), 0, 0),
  (135, (.ireturn, 136, 0, 0, .null, []), 0, 0)]
/-- ThreadBank.torn()I -/
def qc_128 : List qm_E := [
  (0, (.aload_n 0, 1, 0, 0, .null, []), 0, 0),
  (1, (.getfield 297, 4, 4, 8, .null, []), 1, 162),
  (4, (.ireturn, 5, 0, 0, .null, []), 0, 0)]
/-- ThreadBank.count(I)I -/
def qc_129 : List qm_E := [
  (0, (.iload_n 1, 1, 1, 0, .null, []), 0, 0),
  (1, (.tableswitch 127 0 5 #[39, 47, 55, 63, 93, 101], 40, 128, 0, .null, [(0, 40), (1, 48), (2, 56), (3, 64), (4, 94), (5, 102)]), 0, 0),
  (40, (.aload_n 0, 41, 0, 0, .null, []), 0, 0),
  (41, (.getfield 10, 44, 4, 0, .null, []), 1, 154),
  (44, (.invokevirtual 300, 47, 60, 0, .null, []), 4, 70),
  (47, (.ireturn, 48, 0, 0, .null, []), 0, 0),
  (48, (.aload_n 0, 49, 0, 0, .null, []), 0, 0),
  (49, (.getfield 10, 52, 4, 0, .null, []), 1, 154),
  (52, (.invokevirtual 303, 55, 52, 0, .null, []), 4, 74),
  (55, (.ireturn, 56, 0, 0, .null, []), 0, 0),
  (56, (.aload_n 0, 57, 0, 0, .null, []), 0, 0),
  (57, (.getfield 10, 60, 4, 0, .null, []), 1, 154),
  (60, (.getfield 239, 63, 1, 9, .null, []), 1, 49),
  (63, (.ireturn, 64, 0, 0, .null, []), 0, 0),
  (64, (.aload_n 0, 65, 0, 0, .null, []), 0, 0),
  (65, (.getfield 22, 68, 4, 3, .null, []), 1, 157),
  (68, (.iconst 0, 69, 0, 0, .int 0, []), 0, 0),
  (69, (.baload, 70, 0, 0, .null, []), 0, 0),
  (70, (.ifCond .eq 7, 73, 77, 0, .null, []), 0, 0),
  (73, (.iconst 1, 74, 0, 0, .int 1, []), 0, 0),
  (74, (.goto 4, 77, 78, 0, .null, []), 0, 0),
  (77, (.iconst 0, 78, 0, 0, .int 0, []), 0, 0),
  (78, (.aload_n 0, 79, 0, 0, .null, []), 0, 0),
  (79, (.getfield 22, 82, 4, 3, .null, []), 1, 157),
  (82, (.iconst 1, 83, 0, 0, .int 1, []), 0, 0),
  (83, (.baload, 84, 0, 0, .null, []), 0, 0),
  (84, (.ifCond .eq 7, 87, 91, 0, .null, []), 0, 0),
  (87, (.iconst 1, 88, 0, 0, .int 1, []), 0, 0),
  (88, (.goto 4, 91, 92, 0, .null, []), 0, 0),
  (91, (.iconst 0, 92, 0, 0, .int 0, []), 0, 0),
  (92, (.iadd, 93, 0, 0, .null, []), 0, 0),
  (93, (.ireturn, 94, 0, 0, .null, []), 0, 0),
  (94, (.aload_n 0, 95, 0, 0, .null, []), 0, 0),
  (95, (.getfield 29, 98, 4, 4, .null, []), 1, 158),
  (98, (.getfield 55, 101, 3, 2, .null, []), 1, 84),
  (101, (.ireturn, 102, 0, 0, .null, []), 0, 0),
  (102, (.aload_n 0, 103, 0, 0, .null, []), 0, 0),
  (103, (.getfield 43, 106, 4, 6, .null, []), 1, 160),
  (106, (.iconst 0, 107, 0, 0, .int 0, []), 0, 0),
  (107, (.invokevirtual 279, 110, 67, 1, .null, []), 4, 25),
  (110, (.ifCond .eq 8, 113, 118, 0, .null, []), 0, 0),
  (113, (.bipush (-4), 115, 0, 0, .int (-4 : Int32), []), 0, 0),
  (115, (.goto 12, 118, 127, 0, .null, []), 0, 0),
  (118, (.aload_n 0, 119, 0, 0, .null, []), 0, 0),
  (119, (.getfield 43, 122, 4, 6, .null, []), 1, 160),
  (122, (.getfield 306, 125, 2, 2, .null, []), 1, 146),
  (125, (.iconst 0, 126, 0, 0, .int 0, []), 0, 0),
  (126, (.iaload, 127, 0, 0, .null, []), 0, 0),
  (127, (.ireturn, 128, 0, 0, .null, []), 0, 0),
  (128, (.iconst (-1), 129, 0, 0, .int (-1 : Int32), []), 0, 0),
  (129, (.ireturn, 130, 0, 0, .null, []), 0, 0)]
/-- ThreadBank.tieThreeCells(II)Z -/
def qc_130 : List qm_E := [
  (0, (.aload_n 0, 1, 0, 0, .null, []), 0, 0),
  (1, (.getfield 10, 4, 4, 0, .null, []), 1, 154),
  (4, (.aload_n 0, 5, 0, 0, .null, []), 0, 0),
  (5, (.getfield 43, 8, 4, 6, .null, []), 1, 160),
  (8, (.iload_n 1, 9, 1, 0, .null, []), 0, 0),
  (9, (.iload_n 2, 10, 2, 0, .null, []), 0, 0),
  (10, (.invokevirtual 309, 13, 69, 2, .null, []), 4, 58),
  (13, (.aload_n 0, 14, 0, 0, .null, []), 0, 0),
  (14, (.getfield 43, 17, 4, 6, .null, []), 1, 160),
  (17, (.iload_n 1, 18, 1, 0, .null, []), 0, 0),
  (18, (.iload_n 2, 19, 2, 0, .null, []), 0, 0),
  (19, (.iconst 1, 20, 0, 0, .int 1, []), 0, 0),
  (20, (.iadd, 21, 0, 0, .null, []), 0, 0),
  (21, (.invokevirtual 309, 24, 69, 2, .null, []), 4, 58),
  (24, (.aload_n 0, 25, 0, 0, .null, []), 0, 0),
  (25, (.getfield 43, 28, 4, 6, .null, []), 1, 160),
  (28, (.iload_n 1, 29, 1, 0, .null, []), 0, 0),
  (29, (.iload_n 2, 30, 2, 0, .null, []), 0, 0),
  (30, (.iconst 2, 31, 0, 0, .int 2, []), 0, 0),
  (31, (.iadd, 32, 0, 0, .null, []), 0, 0),
  (32, (.invokevirtual 309, 35, 69, 2, .null, []), 4, 58),
  (35, (.invokevirtual 135, 38, 47, 3, .null, []), 2, 211),
  (38, (.ifCond .lt 7, 41, 45, 0, .null, []), 0, 0),
  (41, (.iconst 1, 42, 0, 0, .int 1, []), 0, 0),
  (42, (.goto 4, 45, 46, 0, .null, []), 0, 0),
  (45, (.iconst 0, 46, 0, 0, .int 0, []), 0, 0),
  (46, (.ireturn, 47, 0, 0, .null, []), 0, 0)]
/-- ThreadBank.sumOfNetsAboveNothing()I -/
def qc_131 : List qm_E := [
  (0, (.iconst 0, 1, 0, 0, .int 0, []), 0, 0),
  (1, (.istore_n 1, 2, 1, 0, .null, []), 0, 0),
  (2, (.iconst 0, 3, 0, 0, .int 0, []), 0, 0),
  (3, (.istore_n 2, 4, 2, 0, .null, []), 0, 0),
  (4, (.iload_n 2, 5, 2, 0, .null, []), 0, 0),
  (5, (.aload_n 0, 6, 0, 0, .null, []), 0, 0),
  (6, (.getfield 10, 9, 4, 0, .null, []), 1, 154),
  (9, (.getfield 79, 12, 1, 6, .null, []), 1, 41),
  (12, (.if_icmp .ge 24, 15, 36, 0, .null, []), 0, 0),
  (15, (.iload_n 1, 16, 1, 0, .null, []), 0, 0),
  (16, (.iconst 0, 17, 0, 0, .int 0, []), 0, 0),
  (17, (.aload_n 0, 18, 0, 0, .null, []), 0, 0),
  (18, (.getfield 10, 21, 4, 0, .null, []), 1, 154),
  (21, (.iload_n 2, 22, 2, 0, .null, []), 0, 0),
  (22, (.invokevirtual 108, 25, 55, 1, .null, []), 2, 174),
  (25, (.invokestatic 312, 28, 1, 2, .null, []), 3, 24),
  (28, (.iadd, 29, 0, 0, .null, []), 0, 0),
  (29, (.istore_n 1, 30, 1, 0, .null, []), 0, 0),
  (30, (.iinc 2 1, 33, 2, 0, .int 1, []), 0, 0),
  (33, (.goto (-29), 36, 4, 0, .null, []), 0, 0),
  (36, (.iload_n 1, 37, 1, 0, .null, []), 0, 0),
  (37, (.ireturn, 38, 0, 0, .null, []), 0, 0)]
/-- ThreadBank.firstHasMate()Z -/
def qc_132 : List qm_E := [
  (0, (.iconst 1, 1, 0, 0, .int 1, []), 0, 0),
  (1, (.istore_n 1, 2, 1, 0, .null, []), 0, 0),
  (2, (.iload_n 1, 3, 1, 0, .null, []), 0, 0),
  (3, (.aload_n 0, 4, 0, 0, .null, []), 0, 0),
  (4, (.getfield 10, 7, 4, 0, .null, []), 1, 154),
  (7, (.getfield 79, 10, 1, 6, .null, []), 1, 41),
  (10, (.if_icmp .ge 31, 13, 41, 0, .null, []), 0, 0),
  (13, (.aload_n 0, 14, 0, 0, .null, []), 0, 0),
  (14, (.getfield 10, 17, 4, 0, .null, []), 1, 154),
  (17, (.iconst 0, 18, 0, 0, .int 0, []), 0, 0),
  (18, (.invokevirtual 108, 21, 55, 1, .null, []), 2, 174),
  (21, (.aload_n 0, 22, 0, 0, .null, []), 0, 0),
  (22, (.getfield 10, 25, 4, 0, .null, []), 1, 154),
  (25, (.iload_n 1, 26, 1, 0, .null, []), 0, 0),
  (26, (.invokevirtual 108, 29, 55, 1, .null, []), 2, 174),
  (29, (.iadd, 30, 0, 0, .null, []), 0, 0),
  (30, (.ifCond .ne 5, 33, 35, 0, .null, []), 0, 0),
  (33, (.iconst 1, 34, 0, 0, .int 1, []), 0, 0),
  (34, (.ireturn, 35, 0, 0, .null, []), 0, 0),
  (35, (.iinc 1 1, 38, 1, 0, .int 1, []), 0, 0),
  (38, (.goto (-36), 41, 2, 0, .null, []), 0, 0),
  (41, (.iconst 0, 42, 0, 0, .int 0, []), 0, 0),
  (42, (.ireturn, 43, 0, 0, .null, []), 0, 0)]
/-- ThreadBank.roomiestPlaceOn(I)I -/
def qc_133 : List qm_E := [
  (0, (.bipush 10, 2, 0, 0, .int 10, []), 0, 0),
  (2, (.iload_n 1, 3, 1, 0, .null, []), 0, 0),
  (3, (.imul, 4, 0, 0, .null, []), 0, 0),
  (4, (.istore_n 2, 5, 2, 0, .null, []), 0, 0),
  (5, (.iload_n 2, 6, 2, 0, .null, []), 0, 0),
  (6, (.iconst 1, 7, 0, 0, .int 1, []), 0, 0),
  (7, (.iadd, 8, 0, 0, .null, []), 0, 0),
  (8, (.istore_n 3, 9, 3, 0, .null, []), 0, 0),
  (9, (.iload_n 3, 10, 3, 0, .null, []), 0, 0),
  (10, (.bipush 10, 12, 0, 0, .int 10, []), 0, 0),
  (12, (.iload_n 1, 13, 1, 0, .null, []), 0, 0),
  (13, (.imul, 14, 0, 0, .null, []), 0, 0),
  (14, (.iconst 5, 15, 0, 0, .int 5, []), 0, 0),
  (15, (.iadd, 16, 0, 0, .null, []), 0, 0),
  (16, (.if_icmp .ge 30, 19, 46, 0, .null, []), 0, 0),
  (19, (.aload_n 0, 20, 0, 0, .null, []), 0, 0),
  (20, (.getfield 10, 23, 4, 0, .null, []), 1, 154),
  (23, (.iload_n 3, 24, 3, 0, .null, []), 0, 0),
  (24, (.invokevirtual 143, 27, 40, 1, .null, []), 2, 231),
  (27, (.aload_n 0, 28, 0, 0, .null, []), 0, 0),
  (28, (.getfield 10, 31, 4, 0, .null, []), 1, 154),
  (31, (.iload_n 2, 32, 2, 0, .null, []), 0, 0),
  (32, (.invokevirtual 143, 35, 40, 1, .null, []), 2, 231),
  (35, (.if_icmp .le 5, 38, 40, 0, .null, []), 0, 0),
  (38, (.iload_n 3, 39, 3, 0, .null, []), 0, 0),
  (39, (.istore_n 2, 40, 2, 0, .null, []), 0, 0),
  (40, (.iinc 3 1, 43, 3, 0, .int 1, []), 0, 0),
  (43, (.goto (-34), 46, 9, 0, .null, []), 0, 0),
  (46, (.iload_n 2, 47, 2, 0, .null, []), 0, 0),
  (47, (.ireturn, 48, 0, 0, .null, []), 0, 0)]
/-- ThreadBank.imageOf(I)LThreadBank$Memory; -/
def qc_134 : List qm_E := [
  (0, (.iload_n 1, 1, 1, 0, .null, []), 0, 0),
  (1, (.ifCond .ne 10, 4, 11, 0, .null, []), 0, 0),
  (4, (.aload_n 0, 5, 0, 0, .null, []), 0, 0),
  (5, (.getfield 16, 8, 4, 1, .null, []), 1, 155),
  (8, (.goto 7, 11, 15, 0, .null, []), 0, 0),
  (11, (.aload_n 0, 12, 0, 0, .null, []), 0, 0),
  (12, (.getfield 19, 15, 4, 2, .null, []), 1, 156),
  (15, (.areturn, 16, 0, 0, .null, []), 0, 0)]
/-- ThreadBank.isImage(I)Z -/
def qc_135 : List qm_E := [
  (0, (.iload_n 0, 1, 0, 0, .null, []), 0, 0),
  (1, (.ifCond .eq 8, 4, 9, 0, .null, []), 0, 0),
  (4, (.iload_n 0, 5, 0, 0, .null, []), 0, 0),
  (5, (.iconst 1, 6, 0, 0, .int 1, []), 0, 0),
  (6, (.if_icmp .ne 7, 9, 13, 0, .null, []), 0, 0),
  (9, (.iconst 1, 10, 0, 0, .int 1, []), 0, 0),
  (10, (.goto 4, 13, 14, 0, .null, []), 0, 0),
  (13, (.iconst 0, 14, 0, 0, .int 0, []), 0, 0),
  (14, (.ireturn, 15, 0, 0, .null, []), 0, 0)]
/-- ThreadBank.isOdds(I)Z -/
def qc_136 : List qm_E := [
  (0, (.iload_n 0, 1, 0, 0, .null, []), 0, 0),
  (1, (.ifCond .lt 13, 4, 14, 0, .null, []), 0, 0),
  (4, (.iload_n 0, 5, 0, 0, .null, []), 0, 0),
  (5, (.bipush 10, 7, 0, 0, .int 10, []), 0, 0),
  (7, (.if_icmp .gt 7, 10, 14, 0, .null, []), 0, 0),
  (10, (.iconst 1, 11, 0, 0, .int 1, []), 0, 0),
  (11, (.goto 4, 14, 15, 0, .null, []), 0, 0),
  (14, (.iconst 0, 15, 0, 0, .int 0, []), 0, 0),
  (15, (.ireturn, 16, 0, 0, .null, []), 0, 0)]
/-- ThreadBank.isPart(I)Z -/
def qc_137 : List qm_E := [
  (0, (.iload_n 0, 1, 0, 0, .null, []), 0, 0),
  (1, (.ifCond .eq 8, 4, 9, 0, .null, []), 0, 0),
  (4, (.iload_n 0, 5, 0, 0, .null, []), 0, 0),
  (5, (.iconst 1, 6, 0, 0, .int 1, []), 0, 0),
  (6, (.if_icmp .ne 7, 9, 13, 0, .null, []), 0, 0),
  (9, (.iconst 1, 10, 0, 0, .int 1, []), 0, 0),
  (10, (.goto 4, 13, 14, 0, .null, []), 0, 0),
  (13, (.iconst 0, 14, 0, 0, .int 0, []), 0, 0),
  (14, (.ireturn, 15, 0, 0, .null, []), 0, 0)]
/-- ThreadBank.hasBit(II)Z -/
def qc_138 : List qm_E := [
  (0, (.iload_n 0, 1, 0, 0, .null, []), 0, 0),
  (1, (.iload_n 1, 2, 1, 0, .null, []), 0, 0),
  (2, (.ishr, 3, 0, 0, .null, []), 0, 0),
  (3, (.iconst 1, 4, 0, 0, .int 1, []), 0, 0),
  (4, (.iand, 5, 0, 0, .null, []), 0, 0),
  (5, (.ifCond .eq 7, 8, 12, 0, .null, []), 0, 0),
  (8, (.iconst 1, 9, 0, 0, .int 1, []), 0, 0),
  (9, (.goto 4, 12, 13, 0, .null, []), 0, 0),
  (12, (.iconst 0, 13, 0, 0, .int 0, []), 0, 0),
  (13, (.ireturn, 14, 0, 0, .null, []), 0, 0)]
/-- ThreadBank.partOf(JJI)J -/
def qc_139 : List qm_E := [
  (0, (.lload_n 0, 1, 0, 0, .null, []), 0, 0),
  (1, (.lload_n 2, 2, 2, 0, .null, []), 0, 0),
  (2, (.invokestatic 315, 5, 140, 2, .null, []), 3, 181),
  (5, (.lstore 5, 7, 5, 0, .null, []), 0, 0),
  (7, (.lload 5, 9, 5, 0, .null, []), 0, 0),
  (9, (.lconst 0, 10, 0, 0, .long 0, []), 0, 0),
  (10, (.lcmp, 11, 0, 0, .null, []), 0, 0),
  (11, (.ifCond .ne 5, 14, 16, 0, .null, []), 0, 0),
  (14, (.lconst 0, 15, 0, 0, .long 0, []), 0, 0),
  (15, (.lreturn, 16, 0, 0, .null, []), 0, 0),
  (16, (.iload 4, 18, 4, 0, .null, []), 0, 0),
  (18, (.ifCond .ne 7, 21, 25, 0, .null, []), 0, 0),
  (21, (.lload_n 0, 22, 0, 0, .null, []), 0, 0),
  (22, (.goto 4, 25, 26, 0, .null, []), 0, 0),
  (25, (.lload_n 2, 26, 2, 0, .null, []), 0, 0),
  (26, (.lload 5, 28, 5, 0, .null, []), 0, 0),
  (28, (.ldiv, 29, 0, 0, .null, []), 0, 0),
  (29, (.lreturn, 30, 0, 0, .null, []), 0, 0)]
/-- ThreadBank.greatestShared(JJ)J -/
def qc_140 : List qm_E := [
  (0, (.lload_n 0, 1, 0, 0, .null, []), 0, 0),
  (1, (.lstore 4, 3, 4, 0, .null, []), 0, 0),
  (3, (.lload_n 2, 4, 2, 0, .null, []), 0, 0),
  (4, (.lstore 6, 6, 6, 0, .null, []), 0, 0),
  (6, (.iconst 0, 7, 0, 0, .int 0, []), 0, 0),
  (7, (.istore 8, 9, 8, 0, .null, []), 0, 0),
  (9, (.iload 8, 11, 8, 0, .null, []), 0, 0),
  (11, (.bipush 100, 13, 0, 0, .int 100, []), 0, 0),
  (13, (.if_icmp .ge 31, 16, 44, 0, .null, []), 0, 0),
  (16, (.lload 6, 18, 6, 0, .null, []), 0, 0),
  (18, (.lconst 0, 19, 0, 0, .long 0, []), 0, 0),
  (19, (.lcmp, 20, 0, 0, .null, []), 0, 0),
  (20, (.ifCond .eq 24, 23, 44, 0, .null, []), 0, 0),
  (23, (.lload 4, 25, 4, 0, .null, []), 0, 0),
  (25, (.lload 6, 27, 6, 0, .null, []), 0, 0),
  (27, (.lrem, 28, 0, 0, .null, []), 0, 0),
  (28, (.lstore 9, 30, 9, 0, .null, []), 0, 0),
  (30, (.lload 6, 32, 6, 0, .null, []), 0, 0),
  (32, (.lstore 4, 34, 4, 0, .null, []), 0, 0),
  (34, (.lload 9, 36, 9, 0, .null, []), 0, 0),
  (36, (.lstore 6, 38, 6, 0, .null, []), 0, 0),
  (38, (.iinc 8 1, 41, 8, 0, .int 1, []), 0, 0),
  (41, (.goto (-32), 44, 9, 0, .null, []), 0, 0),
  (44, (.lload 4, 46, 4, 0, .null, []), 0, 0),
  (46, (.lreturn, 47, 0, 0, .null, []), 0, 0)]
/-- ThreadBankModel.in(JJJ)Z -/
def qc_141 : List qm_E := [
  (0, (.lload_n 0, 1, 0, 0, .null, []), 0, 0),
  (1, (.lload_n 2, 2, 2, 0, .null, []), 0, 0),
  (2, (.lcmp, 3, 0, 0, .null, []), 0, 0),
  (3, (.ifCond .lt 14, 6, 17, 0, .null, []), 0, 0),
  (6, (.lload_n 0, 7, 0, 0, .null, []), 0, 0),
  (7, (.lload 4, 9, 4, 0, .null, []), 0, 0),
  (9, (.lcmp, 10, 0, 0, .null, []), 0, 0),
  (10, (.ifCond .gt 7, 13, 17, 0, .null, []), 0, 0),
  (13, (.iconst 1, 14, 0, 0, .int 1, []), 0, 0),
  (14, (.goto 4, 17, 18, 0, .null, []), 0, 0),
  (17, (.iconst 0, 18, 0, 0, .int 0, []), 0, 0),
  (18, (.ireturn, 19, 0, 0, .null, []), 0, 0)]
/-- ThreadBankModel.flag(Z)I -/
def qc_142 : List qm_E := [
  (0, (.iload_n 0, 1, 0, 0, .null, []), 0, 0),
  (1, (.ifCond .eq 7, 4, 8, 0, .null, []), 0, 0),
  (4, (.iconst 1, 5, 0, 0, .int 1, []), 0, 0),
  (5, (.goto 4, 8, 9, 0, .null, []), 0, 0),
  (8, (.iconst 0, 9, 0, 0, .int 0, []), 0, 0),
  (9, (.ireturn, 10, 0, 0, .null, []), 0, 0)]
/-- ThreadBankModel.firstDraft()V -/
def qc_143 : List qm_E := [
  (0, (.iconst 0, 1, 0, 0, .int 0, []), 0, 0),
  (1, (.istore_n 1, 2, 1, 0, .null, []), 0, 0),
  (2, (.iload_n 1, 3, 1, 0, .null, []), 0, 0),
  (3, (.bipush 49, 5, 0, 0, .int 49, []), 0, 0),
  (5, (.if_icmp .ge 16, 8, 21, 0, .null, []), 0, 0),
  (8, (.aload_n 0, 9, 0, 0, .null, []), 0, 0),
  (9, (.getfield 20, 12, 5, 4, .null, []), 4, 96),
  (12, (.iload_n 1, 13, 1, 0, .null, []), 0, 0),
  (13, (.iconst 0, 14, 0, 0, .int 0, []), 0, 0),
  (14, (.iastore, 15, 0, 0, .null, []), 0, 0),
  (15, (.iinc 1 1, 18, 1, 0, .int 1, []), 0, 0),
  (18, (.goto (-16), 21, 2, 0, .null, []), 0, 0),
  (21, (.aload_n 0, 22, 0, 0, .null, []), 0, 0),
  (22, (.iconst 0, 23, 0, 0, .int 0, []), 0, 0),
  (23, (.putfield 50, 26, 5, 5, .null, []), 4, 97),
  (26, (.aload_n 0, 27, 0, 0, .null, []), 0, 0),
  (27, (.iconst 0, 28, 0, 0, .int 0, []), 0, 0),
  (28, (.putfield 54, 31, 5, 6, .null, []), 4, 98),
  (31, (.aload_n 0, 32, 0, 0, .null, []), 0, 0),
  (32, (.bipush (-4), 34, 0, 0, .int (-4 : Int32), []), 0, 0),
  (34, (.putfield 58, 37, 5, 7, .null, []), 4, 99),
  (37, (.return_, 38, 0, 0, .null, []), 0, 0)]
/-- ThreadBankModel.keepDraft()V -/
def qc_144 : List qm_E := [
  (0, (.iconst 0, 1, 0, 0, .int 0, []), 0, 0),
  (1, (.istore_n 1, 2, 1, 0, .null, []), 0, 0),
  (2, (.iload_n 1, 3, 1, 0, .null, []), 0, 0),
  (3, (.bipush 49, 5, 0, 0, .int 49, []), 0, 0),
  (5, (.if_icmp .ge 21, 8, 26, 0, .null, []), 0, 0),
  (8, (.aload_n 0, 9, 0, 0, .null, []), 0, 0),
  (9, (.getfield 7, 12, 5, 0, .null, []), 4, 92),
  (12, (.iload_n 1, 13, 1, 0, .null, []), 0, 0),
  (13, (.aload_n 0, 14, 0, 0, .null, []), 0, 0),
  (14, (.getfield 20, 17, 5, 4, .null, []), 4, 96),
  (17, (.iload_n 1, 18, 1, 0, .null, []), 0, 0),
  (18, (.iaload, 19, 0, 0, .null, []), 0, 0),
  (19, (.iastore, 20, 0, 0, .null, []), 0, 0),
  (20, (.iinc 1 1, 23, 1, 0, .int 1, []), 0, 0),
  (23, (.goto (-21), 26, 2, 0, .null, []), 0, 0),
  (26, (.aload_n 0, 27, 0, 0, .null, []), 0, 0),
  (27, (.aload_n 0, 28, 0, 0, .null, []), 0, 0),
  (28, (.getfield 50, 31, 5, 5, .null, []), 4, 97),
  (31, (.putfield 61, 34, 5, 3, .null, []), 4, 95),
  (34, (.aload_n 0, 35, 0, 0, .null, []), 0, 0),
  (35, (.getfield 16, 38, 5, 2, .null, []), 4, 94),
  (38, (.iconst 0, 39, 0, 0, .int 0, []), 0, 0),
  (39, (.iconst 0, 40, 0, 0, .int 0, []), 0, 0),
  (40, (.bastore, 41, 0, 0, .null, []), 0, 0),
  (41, (.aload_n 0, 42, 0, 0, .null, []), 0, 0),
  (42, (.getfield 16, 45, 5, 2, .null, []), 4, 94),
  (45, (.iconst 1, 46, 0, 0, .int 1, []), 0, 0),
  (46, (.iconst 0, 47, 0, 0, .int 0, []), 0, 0),
  (47, (.bastore, 48, 0, 0, .null, []), 0, 0),
  (48, (.return_, 49, 0, 0, .null, []), 0, 0)]
/-- ThreadBankModel.feed(I)I -/
def qc_145 : List qm_E := [
  (0, (.iload_n 1, 1, 1, 0, .null, []), 0, 0),
  (1, (.i2l, 2, 0, 0, .null, []), 0, 0),
  (2, (.lconst 0, 3, 0, 0, .long 0, []), 0, 0),
  (3, (.ldc2_w 64, 6, 0, 0, .long 127, []), 4, 175),
  (6, (.invokestatic 66, 9, 141, 3, .null, []), 4, 176),
  (9, (.ifCond .ne 5, 12, 14, 0, .null, []), 0, 0),
  (12, (.iconst (-1), 13, 0, 0, .int (-1 : Int32), []), 0, 0),
  (13, (.ireturn, 14, 0, 0, .null, []), 0, 0),
  (14, (.aload_n 0, 15, 0, 0, .null, []), 0, 0),
  (15, (.getfield 70, 18, 5, 9, .null, []), 4, 101),
  (18, (.sipush 160, 21, 0, 0, .int 160, []), 0, 0),
  (21, (.if_icmp .ne 6, 24, 27, 0, .null, []), 0, 0),
  (24, (.bipush (-3), 26, 0, 0, .int (-3 : Int32), []), 0, 0),
  (26, (.ireturn, 27, 0, 0, .null, []), 0, 0),
  (27, (.aload_n 0, 28, 0, 0, .null, []), 0, 0),
  (28, (.getfield 23, 31, 5, 8, .null, []), 4, 100),
  (31, (.aload_n 0, 32, 0, 0, .null, []), 0, 0),
  (32, (.getfield 70, 35, 5, 9, .null, []), 4, 101),
  (35, (.iload_n 1, 36, 1, 0, .null, []), 0, 0),
  (36, (.iastore, 37, 0, 0, .null, []), 0, 0),
  (37, (.aload_n 0, 38, 0, 0, .null, []), 0, 0),
  (38, (.dup, 39, 0, 0, .null, []), 0, 0),
  (39, (.getfield 70, 42, 5, 9, .null, []), 4, 101),
  (42, (.iconst 1, 43, 0, 0, .int 1, []), 0, 0),
  (43, (.iadd, 44, 0, 0, .null, []), 0, 0),
  (44, (.putfield 70, 47, 5, 9, .null, []), 4, 101),
  (47, (.aload_n 0, 48, 0, 0, .null, []), 0, 0),
  (48, (.getfield 70, 51, 5, 9, .null, []), 4, 101),
  (51, (.ireturn, 52, 0, 0, .null, []), 0, 0)]
/-- ThreadBankModel.end(I)I -/
def qc_146 : List qm_E := [
  (0, (.iload_n 1, 1, 1, 0, .null, []), 0, 0),
  (1, (.i2l, 2, 0, 0, .null, []), 0, 0),
  (2, (.lconst 0, 3, 0, 0, .long 0, []), 0, 0),
  (3, (.aload_n 0, 4, 0, 0, .null, []), 0, 0),
  (4, (.getfield 70, 7, 5, 9, .null, []), 4, 101),
  (7, (.i2l, 8, 0, 0, .null, []), 0, 0),
  (8, (.invokestatic 66, 11, 141, 3, .null, []), 4, 176),
  (11, (.ifCond .ne 5, 14, 16, 0, .null, []), 0, 0),
  (14, (.iconst (-1), 15, 0, 0, .int (-1 : Int32), []), 0, 0),
  (15, (.ireturn, 16, 0, 0, .null, []), 0, 0),
  (16, (.aload_n 0, 17, 0, 0, .null, []), 0, 0),
  (17, (.getfield 70, 20, 5, 9, .null, []), 4, 101),
  (20, (.istore_n 2, 21, 2, 0, .null, []), 0, 0),
  (21, (.aload_n 0, 22, 0, 0, .null, []), 0, 0),
  (22, (.iload_n 1, 23, 1, 0, .null, []), 0, 0),
  (23, (.putfield 70, 26, 5, 9, .null, []), 4, 101),
  (26, (.iload_n 2, 27, 2, 0, .null, []), 0, 0),
  (27, (.ireturn, 28, 0, 0, .null, []), 0, 0)]
/-- ThreadBankModel.needs(ZI)V -/
def qc_147 : List qm_E := [
  (0, (.iload_n 1, 1, 1, 0, .null, []), 0, 0),
  (1, (.ifCond .ne 23, 4, 24, 0, .null, []), 0, 0),
  (4, (.aload_n 0, 5, 0, 0, .null, []), 0, 0),
  (5, (.getfield 73, 8, 5, 14, .null, []), 4, 106),
  (8, (.ifCond .ne 16, 11, 24, 0, .null, []), 0, 0),
  (11, (.aload_n 0, 12, 0, 0, .null, []), 0, 0),
  (12, (.iload_n 2, 13, 2, 0, .null, []), 0, 0),
  (13, (.putfield 73, 16, 5, 14, .null, []), 4, 106),
  (16, (.aload_n 0, 17, 0, 0, .null, []), 0, 0),
  (17, (.aload_n 0, 18, 0, 0, .null, []), 0, 0),
  (18, (.getfield 76, 21, 5, 11, .null, []), 4, 103),
  (21, (.putfield 79, 24, 5, 15, .null, []), 4, 107),
  (24, (.return_, 25, 0, 0, .null, []), 0, 0)]
/-- ThreadBankModel.byteAt(I)I -/
def qc_148 : List qm_E := [
  (0, (.iload_n 1, 1, 1, 0, .null, []), 0, 0),
  (1, (.aload_n 0, 2, 0, 0, .null, []), 0, 0),
  (2, (.getfield 70, 5, 5, 9, .null, []), 4, 101),
  (5, (.if_icmp .ge 12, 8, 17, 0, .null, []), 0, 0),
  (8, (.aload_n 0, 9, 0, 0, .null, []), 0, 0),
  (9, (.getfield 23, 12, 5, 8, .null, []), 4, 100),
  (12, (.iload_n 1, 13, 1, 0, .null, []), 0, 0),
  (13, (.iaload, 14, 0, 0, .null, []), 0, 0),
  (14, (.goto 4, 17, 18, 0, .null, []), 0, 0),
  (17, (.iconst (-1), 18, 0, 0, .int (-1 : Int32), []), 0, 0),
  (18, (.ireturn, 19, 0, 0, .null, []), 0, 0)]
/-- ThreadBankModel.is(IIII)Z -/
def qc_149 : List qm_E := [
  (0, (.aload_n 0, 1, 0, 0, .null, []), 0, 0),
  (1, (.getfield 82, 4, 5, 10, .null, []), 4, 102),
  (4, (.aload_n 0, 5, 0, 0, .null, []), 0, 0),
  (5, (.getfield 76, 8, 5, 11, .null, []), 4, 103),
  (8, (.isub, 9, 0, 0, .null, []), 0, 0),
  (9, (.iload_n 1, 10, 1, 0, .null, []), 0, 0),
  (10, (.if_icmp .ne 48, 13, 58, 0, .null, []), 0, 0),
  (13, (.aload_n 0, 14, 0, 0, .null, []), 0, 0),
  (14, (.aload_n 0, 15, 0, 0, .null, []), 0, 0),
  (15, (.getfield 76, 18, 5, 11, .null, []), 4, 103),
  (18, (.invokevirtual 85, 21, 148, 1, .null, []), 4, 191),
  (21, (.iload_n 2, 22, 2, 0, .null, []), 0, 0),
  (22, (.if_icmp .ne 36, 25, 58, 0, .null, []), 0, 0),
  (25, (.aload_n 0, 26, 0, 0, .null, []), 0, 0),
  (26, (.aload_n 0, 27, 0, 0, .null, []), 0, 0),
  (27, (.getfield 76, 30, 5, 11, .null, []), 4, 103),
  (30, (.iconst 1, 31, 0, 0, .int 1, []), 0, 0),
  (31, (.iadd, 32, 0, 0, .null, []), 0, 0),
  (32, (.invokevirtual 85, 35, 148, 1, .null, []), 4, 191),
  (35, (.iload_n 3, 36, 3, 0, .null, []), 0, 0),
  (36, (.if_icmp .ne 22, 39, 58, 0, .null, []), 0, 0),
  (39, (.aload_n 0, 40, 0, 0, .null, []), 0, 0),
  (40, (.aload_n 0, 41, 0, 0, .null, []), 0, 0),
  (41, (.getfield 76, 44, 5, 11, .null, []), 4, 103),
  (44, (.iconst 2, 45, 0, 0, .int 2, []), 0, 0),
  (45, (.iadd, 46, 0, 0, .null, []), 0, 0),
  (46, (.invokevirtual 85, 49, 148, 1, .null, []), 4, 191),
  (49, (.iload 4, 51, 4, 0, .null, []), 0, 0),
  (51, (.if_icmp .ne 7, 54, 58, 0, .null, []), 0, 0),
  (54, (.iconst 1, 55, 0, 0, .int 1, []), 0, 0),
  (55, (.goto 4, 58, 59, 0, .null, []), 0, 0),
  (58, (.iconst 0, 59, 0, 0, .int 0, []), 0, 0),
  (59, (.ireturn, 60, 0, 0, .null, []), 0, 0)]
/-- ThreadBankModel.ends(IIII)Z -/
def qc_150 : List qm_E := [
  (0, (.aload_n 0, 1, 0, 0, .null, []), 0, 0),
  (1, (.aload_n 0, 2, 0, 0, .null, []), 0, 0),
  (2, (.getfield 76, 5, 5, 11, .null, []), 4, 103),
  (5, (.iconst 3, 6, 0, 0, .int 3, []), 0, 0),
  (6, (.iadd, 7, 0, 0, .null, []), 0, 0),
  (7, (.invokevirtual 85, 10, 148, 1, .null, []), 4, 191),
  (10, (.iload_n 1, 11, 1, 0, .null, []), 0, 0),
  (11, (.if_icmp .ne 64, 14, 75, 0, .null, []), 0, 0),
  (14, (.iload_n 2, 15, 2, 0, .null, []), 0, 0),
  (15, (.ifCond .eq 17, 18, 32, 0, .null, []), 0, 0),
  (18, (.aload_n 0, 19, 0, 0, .null, []), 0, 0),
  (19, (.aload_n 0, 20, 0, 0, .null, []), 0, 0),
  (20, (.getfield 76, 23, 5, 11, .null, []), 4, 103),
  (23, (.iconst 4, 24, 0, 0, .int 4, []), 0, 0),
  (24, (.iadd, 25, 0, 0, .null, []), 0, 0),
  (25, (.invokevirtual 85, 28, 148, 1, .null, []), 4, 191),
  (28, (.iload_n 2, 29, 2, 0, .null, []), 0, 0),
  (29, (.if_icmp .ne 46, 32, 75, 0, .null, []), 0, 0),
  (32, (.iload_n 3, 33, 3, 0, .null, []), 0, 0),
  (33, (.ifCond .eq 17, 36, 50, 0, .null, []), 0, 0),
  (36, (.aload_n 0, 37, 0, 0, .null, []), 0, 0),
  (37, (.aload_n 0, 38, 0, 0, .null, []), 0, 0),
  (38, (.getfield 76, 41, 5, 11, .null, []), 4, 103),
  (41, (.iconst 5, 42, 0, 0, .int 5, []), 0, 0),
  (42, (.iadd, 43, 0, 0, .null, []), 0, 0),
  (43, (.invokevirtual 85, 46, 148, 1, .null, []), 4, 191),
  (46, (.iload_n 3, 47, 3, 0, .null, []), 0, 0),
  (47, (.if_icmp .ne 28, 50, 75, 0, .null, []), 0, 0),
  (50, (.iload 4, 52, 4, 0, .null, []), 0, 0),
  (52, (.ifCond .eq 19, 55, 71, 0, .null, []), 0, 0),
  (55, (.aload_n 0, 56, 0, 0, .null, []), 0, 0),
  (56, (.aload_n 0, 57, 0, 0, .null, []), 0, 0),
  (57, (.getfield 76, 60, 5, 11, .null, []), 4, 103),
  (60, (.bipush 6, 62, 0, 0, .int 6, []), 0, 0),
  (62, (.iadd, 63, 0, 0, .null, []), 0, 0),
  (63, (.invokevirtual 85, 66, 148, 1, .null, []), 4, 191),
  (66, (.iload 4, 68, 4, 0, .null, []), 0, 0),
  (68, (.if_icmp .ne 7, 71, 75, 0, .null, []), 0, 0),
  (71, (.iconst 1, 72, 0, 0, .int 1, []), 0, 0),
  (72, (.goto 4, 75, 76, 0, .null, []), 0, 0),
  (75, (.iconst 0, 76, 0, 0, .int 0, []), 0, 0),
  (76, (.ireturn, 77, 0, 0, .null, []), 0, 0)]
/-- ThreadBankModel.lineNow()I -/
def qc_151 : List qm_E := [
  (0, (.aload_n 0, 1, 0, 0, .null, []), 0, 0),
  (1, (.iconst 5, 2, 0, 0, .int 5, []), 0, 0),
  (2, (.bipush 112, 4, 0, 0, .int 112, []), 0, 0),
  (4, (.bipush 108, 6, 0, 0, .int 108, []), 0, 0),
  (6, (.bipush 97, 8, 0, 0, .int 97, []), 0, 0),
  (8, (.invokevirtual 89, 11, 149, 4, .null, []), 4, 211),
  (11, (.ifCond .eq 18, 14, 29, 0, .null, []), 0, 0),
  (14, (.aload_n 0, 15, 0, 0, .null, []), 0, 0),
  (15, (.bipush 105, 17, 0, 0, .int 105, []), 0, 0),
  (17, (.bipush 110, 19, 0, 0, .int 110, []), 0, 0),
  (19, (.iconst 0, 20, 0, 0, .int 0, []), 0, 0),
  (20, (.iconst 0, 21, 0, 0, .int 0, []), 0, 0),
  (21, (.invokevirtual 93, 24, 150, 4, .null, []), 4, 215),
  (24, (.ifCond .eq 5, 27, 29, 0, .null, []), 0, 0),
  (27, (.iconst 0, 28, 0, 0, .int 0, []), 0, 0),
  (28, (.ireturn, 29, 0, 0, .null, []), 0, 0),
  (29, (.aload_n 0, 30, 0, 0, .null, []), 0, 0),
  (30, (.iconst 4, 31, 0, 0, .int 4, []), 0, 0),
  (31, (.bipush 108, 33, 0, 0, .int 108, []), 0, 0),
  (33, (.bipush 101, 35, 0, 0, .int 101, []), 0, 0),
  (35, (.bipush 102, 37, 0, 0, .int 102, []), 0, 0),
  (37, (.invokevirtual 89, 40, 149, 4, .null, []), 4, 211),
  (40, (.ifCond .eq 17, 43, 57, 0, .null, []), 0, 0),
  (43, (.aload_n 0, 44, 0, 0, .null, []), 0, 0),
  (44, (.bipush 116, 46, 0, 0, .int 116, []), 0, 0),
  (46, (.iconst 0, 47, 0, 0, .int 0, []), 0, 0),
  (47, (.iconst 0, 48, 0, 0, .int 0, []), 0, 0),
  (48, (.iconst 0, 49, 0, 0, .int 0, []), 0, 0),
  (49, (.invokevirtual 93, 52, 150, 4, .null, []), 4, 215),
  (52, (.ifCond .eq 5, 55, 57, 0, .null, []), 0, 0),
  (55, (.iconst 1, 56, 0, 0, .int 1, []), 0, 0),
  (56, (.ireturn, 57, 0, 0, .null, []), 0, 0),
  (57, (.aload_n 0, 58, 0, 0, .null, []), 0, 0),
  (58, (.iconst 3, 59, 0, 0, .int 3, []), 0, 0),
  (59, (.bipush 111, 61, 0, 0, .int 111, []), 0, 0),
  (61, (.bipush 108, 63, 0, 0, .int 108, []), 0, 0),
  (63, (.bipush 100, 65, 0, 0, .int 100, []), 0, 0),
  (65, (.invokevirtual 89, 68, 149, 4, .null, []), 4, 211),
  (68, (.ifCond .eq 5, 71, 73, 0, .null, []), 0, 0),
  (71, (.iconst 2, 72, 0, 0, .int 2, []), 0, 0),
  (72, (.ireturn, 73, 0, 0, .null, []), 0, 0),
  (73, (.aload_n 0, 74, 0, 0, .null, []), 0, 0),
  (74, (.bipush 7, 76, 0, 0, .int 7, []), 0, 0),
  (76, (.bipush 102, 78, 0, 0, .int 102, []), 0, 0),
  (78, (.bipush 111, 80, 0, 0, .int 111, []), 0, 0),
  (80, (.bipush 117, 82, 0, 0, .int 117, []), 0, 0),
  (82, (.invokevirtual 89, 85, 149, 4, .null, []), 4, 211),
  (85, (.ifCond .eq 20, 88, 105, 0, .null, []), 0, 0),
  (88, (.aload_n 0, 89, 0, 0, .null, []), 0, 0),
  (89, (.bipush 110, 91, 0, 0, .int 110, []), 0, 0),
  (91, (.bipush 100, 93, 0, 0, .int 100, []), 0, 0),
  (93, (.bipush 101, 95, 0, 0, .int 101, []), 0, 0),
  (95, (.bipush 114, 97, 0, 0, .int 114, []), 0, 0),
  (97, (.invokevirtual 93, 100, 150, 4, .null, []), 4, 215),
  (100, (.ifCond .eq 5, 103, 105, 0, .null, []), 0, 0),
  (103, (.iconst 3, 104, 0, 0, .int 3, []), 0, 0),
  (104, (.ireturn, 105, 0, 0, .null, []), 0, 0),
  (105, (.aload_n 0, 106, 0, 0, .null, []), 0, 0),
  (106, (.iconst 3, 107, 0, 0, .int 3, []), 0, 0),
  (107, (.bipush 100, 109, 0, 0, .int 100, []), 0, 0),
  (109, (.bipush 97, 111, 0, 0, .int 97, []), 0, 0),
  (111, (.bipush 121, 113, 0, 0, .int 121, []), 0, 0),
  (113, (.invokevirtual 89, 116, 149, 4, .null, []), 4, 211),
  (116, (.ifCond .eq 7, 119, 123, 0, .null, []), 0, 0),
  (119, (.iconst 4, 120, 0, 0, .int 4, []), 0, 0),
  (120, (.goto 23, 123, 143, 0, .null, []), 0, 0),
  (123, (.aload_n 0, 124, 0, 0, .null, []), 0, 0),
  (124, (.iconst 3, 125, 0, 0, .int 3, []), 0, 0),
  (125, (.bipush 116, 127, 0, 0, .int 116, []), 0, 0),
  (127, (.bipush 105, 129, 0, 0, .int 105, []), 0, 0),
  (129, (.bipush 101, 131, 0, 0, .int 101, []), 0, 0),
  (131, (.invokevirtual 89, 134, 149, 4, .null, []), 4, 211),
  (134, (.ifCond .eq 7, 137, 141, 0, .null, []), 0, 0),
  (137, (.iconst 5, 138, 0, 0, .int 5, []), 0, 0),
  (138, (.goto 5, 141, 143, 0, .null, []), 0, 0),
  (141, (.bipush (-4), 143, 0, 0, .int (-4 : Int32), []), 0, 0),
  (143, (.ireturn, 144, 0, 0, .null, []), 0, 0)]
/-- ThreadBankModel.next()V -/
def qc_152 : List qm_E := [
  (0, (.aload_n 0, 1, 0, 0, .null, []), 0, 0),
  (1, (.getfield 73, 4, 5, 14, .null, []), 4, 106),
  (4, (.ifCond .le 4, 7, 8, 0, .null, []), 0, 0),
  (7, (.return_, 8, 0, 0, .null, []), 0, 0),
  (8, (.aload_n 0, 9, 0, 0, .null, []), 0, 0),
  (9, (.aload_n 0, 10, 0, 0, .null, []), 0, 0),
  (10, (.getfield 82, 13, 5, 10, .null, []), 4, 102),
  (13, (.invokevirtual 85, 16, 148, 1, .null, []), 4, 191),
  (16, (.bipush 32, 18, 0, 0, .int 32, []), 0, 0),
  (18, (.if_icmp .ne 16, 21, 34, 0, .null, []), 0, 0),
  (21, (.aload_n 0, 22, 0, 0, .null, []), 0, 0),
  (22, (.dup, 23, 0, 0, .null, []), 0, 0),
  (23, (.getfield 82, 26, 5, 10, .null, []), 4, 102),
  (26, (.iconst 1, 27, 0, 0, .int 1, []), 0, 0),
  (27, (.iadd, 28, 0, 0, .null, []), 0, 0),
  (28, (.putfield 82, 31, 5, 10, .null, []), 4, 102),
  (31, (.goto (-23), 34, 8, 0, .null, []), 0, 0),
  (34, (.aload_n 0, 35, 0, 0, .null, []), 0, 0),
  (35, (.aload_n 0, 36, 0, 0, .null, []), 0, 0),
  (36, (.getfield 82, 39, 5, 10, .null, []), 4, 102),
  (39, (.putfield 76, 42, 5, 11, .null, []), 4, 103),
  (42, (.aload_n 0, 43, 0, 0, .null, []), 0, 0),
  (43, (.aload_n 0, 44, 0, 0, .null, []), 0, 0),
  (44, (.getfield 82, 47, 5, 10, .null, []), 4, 102),
  (47, (.invokevirtual 85, 50, 148, 1, .null, []), 4, 191),
  (50, (.istore_n 1, 51, 1, 0, .null, []), 0, 0),
  (51, (.iload_n 1, 52, 1, 0, .null, []), 0, 0),
  (52, (.ifCond .ge 11, 55, 63, 0, .null, []), 0, 0),
  (55, (.aload_n 0, 56, 0, 0, .null, []), 0, 0),
  (56, (.iconst 0, 57, 0, 0, .int 0, []), 0, 0),
  (57, (.putfield 96, 60, 5, 12, .null, []), 4, 104),
  (60, (.goto 214, 63, 274, 0, .null, []), 0, 0),
  (63, (.iload_n 1, 64, 1, 0, .null, []), 0, 0),
  (64, (.i2l, 65, 0, 0, .null, []), 0, 0),
  (65, (.ldc2_w 99, 68, 0, 0, .long 97, []), 4, 195),
  (68, (.ldc2_w 101, 71, 0, 0, .long 122, []), 4, 196),
  (71, (.invokestatic 66, 74, 141, 3, .null, []), 4, 176),
  (74, (.ifCond .eq 42, 77, 116, 0, .null, []), 0, 0),
  (77, (.aload_n 0, 78, 0, 0, .null, []), 0, 0),
  (78, (.iconst 1, 79, 0, 0, .int 1, []), 0, 0),
  (79, (.putfield 96, 82, 5, 12, .null, []), 4, 104),
  (82, (.aload_n 0, 83, 0, 0, .null, []), 0, 0),
  (83, (.aload_n 0, 84, 0, 0, .null, []), 0, 0),
  (84, (.getfield 82, 87, 5, 10, .null, []), 4, 102),
  (87, (.invokevirtual 85, 90, 148, 1, .null, []), 4, 191),
  (90, (.i2l, 91, 0, 0, .null, []), 0, 0),
  (91, (.ldc2_w 99, 94, 0, 0, .long 97, []), 4, 195),
  (94, (.ldc2_w 101, 97, 0, 0, .long 122, []), 4, 196),
  (97, (.invokestatic 66, 100, 141, 3, .null, []), 4, 176),
  (100, (.ifCond .eq 174, 103, 274, 0, .null, []), 0, 0),
  (103, (.aload_n 0, 104, 0, 0, .null, []), 0, 0),
  (104, (.dup, 105, 0, 0, .null, []), 0, 0),
  (105, (.getfield 82, 108, 5, 10, .null, []), 4, 102),
  (108, (.iconst 1, 109, 0, 0, .int 1, []), 0, 0),
  (109, (.iadd, 110, 0, 0, .null, []), 0, 0),
  (110, (.putfield 82, 113, 5, 10, .null, []), 4, 102),
  (113, (.goto (-31), 116, 82, 0, .null, []), 0, 0),
  (116, (.iload_n 1, 117, 1, 0, .null, []), 0, 0),
  (117, (.i2l, 118, 0, 0, .null, []), 0, 0),
  (118, (.ldc2_w 103, 121, 0, 0, .long 48, []), 4, 197),
  (121, (.ldc2_w 105, 124, 0, 0, .long 57, []), 4, 198),
  (124, (.invokestatic 66, 127, 141, 3, .null, []), 4, 176),
  (127, (.ifCond .eq 116, 130, 243, 0, .null, []), 0, 0),
  (130, (.aload_n 0, 131, 0, 0, .null, []), 0, 0),
  (131, (.iconst 2, 132, 0, 0, .int 2, []), 0, 0),
  (132, (.putfield 96, 135, 5, 12, .null, []), 4, 104),
  (135, (.aload_n 0, 136, 0, 0, .null, []), 0, 0),
  (136, (.iconst 0, 137, 0, 0, .int 0, []), 0, 0),
  (137, (.putfield 107, 140, 5, 13, .null, []), 4, 105),
  (140, (.aload_n 0, 141, 0, 0, .null, []), 0, 0),
  (141, (.aload_n 0, 142, 0, 0, .null, []), 0, 0),
  (142, (.getfield 82, 145, 5, 10, .null, []), 4, 102),
  (145, (.invokevirtual 85, 148, 148, 1, .null, []), 4, 191),
  (148, (.i2l, 149, 0, 0, .null, []), 0, 0),
  (149, (.ldc2_w 103, 152, 0, 0, .long 48, []), 4, 197),
  (152, (.ldc2_w 105, 155, 0, 0, .long 57, []), 4, 198),
  (155, (.invokestatic 66, 158, 141, 3, .null, []), 4, 176),
  (158, (.ifCond .eq 59, 161, 217, 0, .null, []), 0, 0),
  (161, (.aload_n 0, 162, 0, 0, .null, []), 0, 0),
  (162, (.aload_n 0, 163, 0, 0, .null, []), 0, 0),
  (163, (.getfield 82, 166, 5, 10, .null, []), 4, 102),
  (166, (.aload_n 0, 167, 0, 0, .null, []), 0, 0),
  (167, (.getfield 76, 170, 5, 11, .null, []), 4, 103),
  (170, (.isub, 171, 0, 0, .null, []), 0, 0),
  (171, (.iconst 2, 172, 0, 0, .int 2, []), 0, 0),
  (172, (.if_icmp .ge 25, 175, 197, 0, .null, []), 0, 0),
  (175, (.bipush 10, 177, 0, 0, .int 10, []), 0, 0),
  (177, (.aload_n 0, 178, 0, 0, .null, []), 0, 0),
  (178, (.getfield 107, 181, 5, 13, .null, []), 4, 105),
  (181, (.imul, 182, 0, 0, .null, []), 0, 0),
  (182, (.aload_n 0, 183, 0, 0, .null, []), 0, 0),
  (183, (.aload_n 0, 184, 0, 0, .null, []), 0, 0),
  (184, (.getfield 82, 187, 5, 10, .null, []), 4, 102),
  (187, (.invokevirtual 85, 190, 148, 1, .null, []), 4, 191),
  (190, (.iadd, 191, 0, 0, .null, []), 0, 0),
  (191, (.bipush 48, 193, 0, 0, .int 48, []), 0, 0),
  (193, (.isub, 194, 0, 0, .null, []), 0, 0),
  (194, (.goto 7, 197, 201, 0, .null, []), 0, 0),
  (197, (.aload_n 0, 198, 0, 0, .null, []), 0, 0),
  (198, (.getfield 107, 201, 5, 13, .null, []), 4, 105),
  (201, (.putfield 107, 204, 5, 13, .null, []), 4, 105),
  (204, (.aload_n 0, 205, 0, 0, .null, []), 0, 0),
  (205, (.dup, 206, 0, 0, .null, []), 0, 0),
  (206, (.getfield 82, 209, 5, 10, .null, []), 4, 102),
  (209, (.iconst 1, 210, 0, 0, .int 1, []), 0, 0),
  (210, (.iadd, 211, 0, 0, .null, []), 0, 0),
  (211, (.putfield 82, 214, 5, 10, .null, []), 4, 102),
  (214, (.goto (-74), 217, 140, 0, .null, []), 0, 0),
  (217, (.aload_n 0, 218, 0, 0, .null, []), 0, 0),
  (218, (.aload_n 0, 219, 0, 0, .null, []), 0, 0),
  (219, (.getfield 82, 222, 5, 10, .null, []), 4, 102),
  (222, (.aload_n 0, 223, 0, 0, .null, []), 0, 0),
  (223, (.getfield 76, 226, 5, 11, .null, []), 4, 103),
  (226, (.isub, 227, 0, 0, .null, []), 0, 0),
  (227, (.iconst 2, 228, 0, 0, .int 2, []), 0, 0),
  (228, (.if_icmp .gt 7, 231, 235, 0, .null, []), 0, 0),
  (231, (.iconst 1, 232, 0, 0, .int 1, []), 0, 0),
  (232, (.goto 4, 235, 236, 0, .null, []), 0, 0),
  (235, (.iconst 0, 236, 0, 0, .int 0, []), 0, 0),
  (236, (.iconst 1, 237, 0, 0, .int 1, []), 0, 0),
  (237, (.invokevirtual 110, 240, 147, 2, .null, []), 4, 199),
  (240, (.goto 34, 243, 274, 0, .null, []), 0, 0),
  (243, (.aload_n 0, 244, 0, 0, .null, []), 0, 0),
  (244, (.iconst 3, 245, 0, 0, .int 3, []), 0, 0),
  (245, (.putfield 96, 248, 5, 12, .null, []), 4, 104),
  (248, (.aload_n 0, 249, 0, 0, .null, []), 0, 0),
  (249, (.iload_n 1, 250, 1, 0, .null, []), 0, 0),
  (250, (.bipush 59, 252, 0, 0, .int 59, []), 0, 0),
  (252, (.if_icmp .ne 7, 255, 259, 0, .null, []), 0, 0),
  (255, (.iconst 1, 256, 0, 0, .int 1, []), 0, 0),
  (256, (.goto 4, 259, 260, 0, .null, []), 0, 0),
  (259, (.iconst 0, 260, 0, 0, .int 0, []), 0, 0),
  (260, (.iconst 1, 261, 0, 0, .int 1, []), 0, 0),
  (261, (.invokevirtual 110, 264, 147, 2, .null, []), 4, 199),
  (264, (.aload_n 0, 265, 0, 0, .null, []), 0, 0),
  (265, (.dup, 266, 0, 0, .null, []), 0, 0),
  (266, (.getfield 82, 269, 5, 10, .null, []), 4, 102),
  (269, (.iconst 1, 270, 0, 0, .int 1, []), 0, 0),
  (270, (.iadd, 271, 0, 0, .null, []), 0, 0),
  (271, (.putfield 82, 274, 5, 10, .null, []), 4, 102),
  (274, (.return_, 275, 0, 0, .null, []), 0, 0)]
/-- ThreadBankModel.looked(II)I -/
def qc_153 : List qm_E := [
  (0, (.aload_n 0, 1, 0, 0, .null, []), 0, 0),
  (1, (.getfield 73, 4, 5, 14, .null, []), 4, 106),
  (4, (.ifCond .ne 21, 7, 25, 0, .null, []), 0, 0),
  (7, (.aload_n 0, 8, 0, 0, .null, []), 0, 0),
  (8, (.aload_n 0, 9, 0, 0, .null, []), 0, 0),
  (9, (.getfield 96, 12, 5, 12, .null, []), 4, 104),
  (12, (.iconst 2, 13, 0, 0, .int 2, []), 0, 0),
  (13, (.if_icmp .ne 7, 16, 20, 0, .null, []), 0, 0),
  (16, (.iconst 1, 17, 0, 0, .int 1, []), 0, 0),
  (17, (.goto 4, 20, 21, 0, .null, []), 0, 0),
  (20, (.iconst 0, 21, 0, 0, .int 0, []), 0, 0),
  (21, (.iconst 2, 22, 0, 0, .int 2, []), 0, 0),
  (22, (.invokevirtual 110, 25, 147, 2, .null, []), 4, 199),
  (25, (.aload_n 0, 26, 0, 0, .null, []), 0, 0),
  (26, (.getfield 73, 29, 5, 14, .null, []), 4, 106),
  (29, (.ifCond .ne 20, 32, 49, 0, .null, []), 0, 0),
  (32, (.aload_n 0, 33, 0, 0, .null, []), 0, 0),
  (33, (.aload_n 0, 34, 0, 0, .null, []), 0, 0),
  (34, (.getfield 107, 37, 5, 13, .null, []), 4, 105),
  (37, (.i2l, 38, 0, 0, .null, []), 0, 0),
  (38, (.iload_n 1, 39, 1, 0, .null, []), 0, 0),
  (39, (.i2l, 40, 0, 0, .null, []), 0, 0),
  (40, (.iload_n 2, 41, 2, 0, .null, []), 0, 0),
  (41, (.i2l, 42, 0, 0, .null, []), 0, 0),
  (42, (.invokestatic 66, 45, 141, 3, .null, []), 4, 176),
  (45, (.iconst 3, 46, 0, 0, .int 3, []), 0, 0),
  (46, (.invokevirtual 110, 49, 147, 2, .null, []), 4, 199),
  (49, (.aload_n 0, 50, 0, 0, .null, []), 0, 0),
  (50, (.getfield 73, 53, 5, 14, .null, []), 4, 106),
  (53, (.ifCond .ne 10, 56, 63, 0, .null, []), 0, 0),
  (56, (.aload_n 0, 57, 0, 0, .null, []), 0, 0),
  (57, (.getfield 107, 60, 5, 13, .null, []), 4, 105),
  (60, (.goto 4, 63, 64, 0, .null, []), 0, 0),
  (63, (.iconst 0, 64, 0, 0, .int 0, []), 0, 0),
  (64, (.ireturn, 65, 0, 0, .null, []), 0, 0)]
/-- ThreadBankModel.readNumber(II)I -/
def qc_154 : List qm_E := [
  (0, (.aload_n 0, 1, 0, 0, .null, []), 0, 0),
  (1, (.iload_n 1, 2, 1, 0, .null, []), 0, 0),
  (2, (.iload_n 2, 3, 2, 0, .null, []), 0, 0),
  (3, (.invokevirtual 114, 6, 153, 2, .null, []), 4, 227),
  (6, (.istore_n 3, 7, 3, 0, .null, []), 0, 0),
  (7, (.aload_n 0, 8, 0, 0, .null, []), 0, 0),
  (8, (.invokevirtual 118, 11, 152, 0, .null, []), 4, 187),
  (11, (.iload_n 3, 12, 3, 0, .null, []), 0, 0),
  (12, (.ireturn, 13, 0, 0, .null, []), 0, 0)]
/-- ThreadBankModel.mentions(I)V -/
def qc_155 : List qm_E := [
  (0, (.aload_n 0, 1, 0, 0, .null, []), 0, 0),
  (1, (.aload_n 0, 2, 0, 0, .null, []), 0, 0),
  (2, (.getfield 73, 5, 5, 14, .null, []), 4, 106),
  (5, (.ifCond .ne 15, 8, 20, 0, .null, []), 0, 0),
  (8, (.iload_n 1, 9, 1, 0, .null, []), 0, 0),
  (9, (.aload_n 0, 10, 0, 0, .null, []), 0, 0),
  (10, (.getfield 58, 13, 5, 7, .null, []), 4, 99),
  (13, (.if_icmp .le 7, 16, 20, 0, .null, []), 0, 0),
  (16, (.iload_n 1, 17, 1, 0, .null, []), 0, 0),
  (17, (.goto 7, 20, 24, 0, .null, []), 0, 0),
  (20, (.aload_n 0, 21, 0, 0, .null, []), 0, 0),
  (21, (.getfield 58, 24, 5, 7, .null, []), 4, 99),
  (24, (.putfield 58, 27, 5, 7, .null, []), 4, 99),
  (27, (.return_, 28, 0, 0, .null, []), 0, 0)]
/-- ThreadBankModel.readPlace()I -/
def qc_156 : List qm_E := [
  (0, (.aload_n 0, 1, 0, 0, .null, []), 0, 0),
  (1, (.iconst 0, 2, 0, 0, .int 0, []), 0, 0),
  (2, (.bipush 39, 4, 0, 0, .int 39, []), 0, 0),
  (4, (.invokevirtual 114, 7, 153, 2, .null, []), 4, 227),
  (7, (.istore_n 1, 8, 1, 0, .null, []), 0, 0),
  (8, (.aload_n 0, 9, 0, 0, .null, []), 0, 0),
  (9, (.getfield 73, 12, 5, 14, .null, []), 4, 106),
  (12, (.ifCond .ne 21, 15, 33, 0, .null, []), 0, 0),
  (15, (.aload_n 0, 16, 0, 0, .null, []), 0, 0),
  (16, (.iload_n 1, 17, 1, 0, .null, []), 0, 0),
  (17, (.bipush 10, 19, 0, 0, .int 10, []), 0, 0),
  (19, (.irem, 20, 0, 0, .null, []), 0, 0),
  (20, (.iconst 5, 21, 0, 0, .int 5, []), 0, 0),
  (21, (.if_icmp .ge 7, 24, 28, 0, .null, []), 0, 0),
  (24, (.iconst 1, 25, 0, 0, .int 1, []), 0, 0),
  (25, (.goto 4, 28, 29, 0, .null, []), 0, 0),
  (28, (.iconst 0, 29, 0, 0, .int 0, []), 0, 0),
  (29, (.iconst 3, 30, 0, 0, .int 3, []), 0, 0),
  (30, (.invokevirtual 110, 33, 147, 2, .null, []), 4, 199),
  (33, (.aload_n 0, 34, 0, 0, .null, []), 0, 0),
  (34, (.iload_n 1, 35, 1, 0, .null, []), 0, 0),
  (35, (.bipush 10, 37, 0, 0, .int 10, []), 0, 0),
  (37, (.idiv, 38, 0, 0, .null, []), 0, 0),
  (38, (.invokevirtual 121, 41, 155, 1, .null, []), 4, 235),
  (41, (.aload_n 0, 42, 0, 0, .null, []), 0, 0),
  (42, (.invokevirtual 118, 45, 152, 0, .null, []), 4, 187),
  (45, (.iload_n 1, 46, 1, 0, .null, []), 0, 0),
  (46, (.ireturn, 47, 0, 0, .null, []), 0, 0)]
/-- ThreadBankModel.readPair()I -/
def qc_157 : List qm_E := [
  (0, (.aload_n 0, 1, 0, 0, .null, []), 0, 0),
  (1, (.iconst 0, 2, 0, 0, .int 0, []), 0, 0),
  (2, (.bipush 39, 4, 0, 0, .int 39, []), 0, 0),
  (4, (.invokevirtual 114, 7, 153, 2, .null, []), 4, 227),
  (7, (.istore_n 1, 8, 1, 0, .null, []), 0, 0),
  (8, (.aload_n 0, 9, 0, 0, .null, []), 0, 0),
  (9, (.getfield 73, 12, 5, 14, .null, []), 4, 106),
  (12, (.ifCond .ne 32, 15, 44, 0, .null, []), 0, 0),
  (15, (.aload_n 0, 16, 0, 0, .null, []), 0, 0),
  (16, (.iload_n 1, 17, 1, 0, .null, []), 0, 0),
  (17, (.bipush 10, 19, 0, 0, .int 10, []), 0, 0),
  (19, (.irem, 20, 0, 0, .null, []), 0, 0),
  (20, (.iconst 4, 21, 0, 0, .int 4, []), 0, 0),
  (21, (.if_icmp .ge 18, 24, 39, 0, .null, []), 0, 0),
  (24, (.iload_n 1, 25, 1, 0, .null, []), 0, 0),
  (25, (.bipush 10, 27, 0, 0, .int 10, []), 0, 0),
  (27, (.idiv, 28, 0, 0, .null, []), 0, 0),
  (28, (.iload_n 1, 29, 1, 0, .null, []), 0, 0),
  (29, (.bipush 10, 31, 0, 0, .int 10, []), 0, 0),
  (31, (.irem, 32, 0, 0, .null, []), 0, 0),
  (32, (.if_icmp .eq 7, 35, 39, 0, .null, []), 0, 0),
  (35, (.iconst 1, 36, 0, 0, .int 1, []), 0, 0),
  (36, (.goto 4, 39, 40, 0, .null, []), 0, 0),
  (39, (.iconst 0, 40, 0, 0, .int 0, []), 0, 0),
  (40, (.iconst 3, 41, 0, 0, .int 3, []), 0, 0),
  (41, (.invokevirtual 110, 44, 147, 2, .null, []), 4, 199),
  (44, (.aload_n 0, 45, 0, 0, .null, []), 0, 0),
  (45, (.iload_n 1, 46, 1, 0, .null, []), 0, 0),
  (46, (.bipush 10, 48, 0, 0, .int 10, []), 0, 0),
  (48, (.idiv, 49, 0, 0, .null, []), 0, 0),
  (49, (.invokevirtual 121, 52, 155, 1, .null, []), 4, 235),
  (52, (.aload_n 0, 53, 0, 0, .null, []), 0, 0),
  (53, (.iload_n 1, 54, 1, 0, .null, []), 0, 0),
  (54, (.bipush 10, 56, 0, 0, .int 10, []), 0, 0),
  (56, (.irem, 57, 0, 0, .null, []), 0, 0),
  (57, (.invokevirtual 121, 60, 155, 1, .null, []), 4, 235),
  (60, (.aload_n 0, 61, 0, 0, .null, []), 0, 0),
  (61, (.invokevirtual 118, 64, 152, 0, .null, []), 4, 187),
  (64, (.iload_n 1, 65, 1, 0, .null, []), 0, 0),
  (65, (.ireturn, 66, 0, 0, .null, []), 0, 0)]
/-- ThreadBankModel.readLineOf(I)V -/
def qc_158 : List qm_E := [
  (0, (.iload_n 1, 1, 1, 0, .null, []), 0, 0),
  (1, (.iconst 4, 2, 0, 0, .int 4, []), 0, 0),
  (2, (.if_icmp .ne 19, 5, 21, 0, .null, []), 0, 0),
  (5, (.aload_n 0, 6, 0, 0, .null, []), 0, 0),
  (6, (.getfield 20, 9, 5, 4, .null, []), 4, 96),
  (9, (.iconst 5, 10, 0, 0, .int 5, []), 0, 0),
  (10, (.aload_n 0, 11, 0, 0, .null, []), 0, 0),
  (11, (.iconst 0, 12, 0, 0, .int 0, []), 0, 0),
  (12, (.bipush 9, 14, 0, 0, .int 9, []), 0, 0),
  (14, (.invokevirtual 125, 17, 154, 2, .null, []), 4, 223),
  (17, (.iastore, 18, 0, 0, .null, []), 0, 0),
  (18, (.goto 95, 21, 113, 0, .null, []), 0, 0),
  (21, (.iload_n 1, 22, 1, 0, .null, []), 0, 0),
  (22, (.iconst 5, 23, 0, 0, .int 5, []), 0, 0),
  (23, (.if_icmp .ne 68, 26, 91, 0, .null, []), 0, 0),
  (26, (.bipush 6, 28, 0, 0, .int 6, []), 0, 0),
  (28, (.iconst 3, 29, 0, 0, .int 3, []), 0, 0),
  (29, (.aload_n 0, 30, 0, 0, .null, []), 0, 0),
  (30, (.getfield 20, 33, 5, 4, .null, []), 4, 96),
  (33, (.iconst 4, 34, 0, 0, .int 4, []), 0, 0),
  (34, (.iaload, 35, 0, 0, .null, []), 0, 0),
  (35, (.imul, 36, 0, 0, .null, []), 0, 0),
  (36, (.iadd, 37, 0, 0, .null, []), 0, 0),
  (37, (.istore_n 2, 38, 2, 0, .null, []), 0, 0),
  (38, (.aload_n 0, 39, 0, 0, .null, []), 0, 0),
  (39, (.getfield 20, 42, 5, 4, .null, []), 4, 96),
  (42, (.iload_n 2, 43, 2, 0, .null, []), 0, 0),
  (43, (.iconst 0, 44, 0, 0, .int 0, []), 0, 0),
  (44, (.iadd, 45, 0, 0, .null, []), 0, 0),
  (45, (.aload_n 0, 46, 0, 0, .null, []), 0, 0),
  (46, (.invokevirtual 128, 49, 156, 0, .null, []), 4, 231),
  (49, (.iastore, 50, 0, 0, .null, []), 0, 0),
  (50, (.aload_n 0, 51, 0, 0, .null, []), 0, 0),
  (51, (.getfield 20, 54, 5, 4, .null, []), 4, 96),
  (54, (.iload_n 2, 55, 2, 0, .null, []), 0, 0),
  (55, (.iconst 1, 56, 0, 0, .int 1, []), 0, 0),
  (56, (.iadd, 57, 0, 0, .null, []), 0, 0),
  (57, (.aload_n 0, 58, 0, 0, .null, []), 0, 0),
  (58, (.invokevirtual 132, 61, 157, 0, .null, []), 4, 239),
  (61, (.iastore, 62, 0, 0, .null, []), 0, 0),
  (62, (.aload_n 0, 63, 0, 0, .null, []), 0, 0),
  (63, (.getfield 20, 66, 5, 4, .null, []), 4, 96),
  (66, (.iload_n 2, 67, 2, 0, .null, []), 0, 0),
  (67, (.iconst 2, 68, 0, 0, .int 2, []), 0, 0),
  (68, (.iadd, 69, 0, 0, .null, []), 0, 0),
  (69, (.aload_n 0, 70, 0, 0, .null, []), 0, 0),
  (70, (.bipush 10, 72, 0, 0, .int 10, []), 0, 0),
  (72, (.bipush 99, 74, 0, 0, .int 99, []), 0, 0),
  (74, (.invokevirtual 125, 77, 154, 2, .null, []), 4, 223),
  (77, (.iastore, 78, 0, 0, .null, []), 0, 0),
  (78, (.aload_n 0, 79, 0, 0, .null, []), 0, 0),
  (79, (.getfield 20, 82, 5, 4, .null, []), 4, 96),
  (82, (.iconst 4, 83, 0, 0, .int 4, []), 0, 0),
  (83, (.dup2, 84, 0, 0, .null, []), 0, 0),
  (84, (.iaload, 85, 0, 0, .null, []), 0, 0),
  (85, (.iconst 1, 86, 0, 0, .int 1, []), 0, 0),
  (86, (.iadd, 87, 0, 0, .null, []), 0, 0),
  (87, (.iastore, 88, 0, 0, .null, []), 0, 0),
  (88, (.goto 25, 91, 113, 0, .null, []), 0, 0),
  (91, (.aload_n 0, 92, 0, 0, .null, []), 0, 0),
  (92, (.getfield 20, 95, 5, 4, .null, []), 4, 96),
  (95, (.iconst 0, 96, 0, 0, .int 0, []), 0, 0),
  (96, (.aload_n 0, 97, 0, 0, .null, []), 0, 0),
  (97, (.getfield 50, 100, 5, 5, .null, []), 4, 97),
  (100, (.iadd, 101, 0, 0, .null, []), 0, 0),
  (101, (.iload_n 1, 102, 1, 0, .null, []), 0, 0),
  (102, (.iastore, 103, 0, 0, .null, []), 0, 0),
  (103, (.aload_n 0, 104, 0, 0, .null, []), 0, 0),
  (104, (.dup, 105, 0, 0, .null, []), 0, 0),
  (105, (.getfield 50, 108, 5, 5, .null, []), 4, 97),
  (108, (.iconst 1, 109, 0, 0, .int 1, []), 0, 0),
  (109, (.iadd, 110, 0, 0, .null, []), 0, 0),
  (110, (.putfield 50, 113, 5, 5, .null, []), 4, 97),
  (113, (.return_, 114, 0, 0, .null, []), 0, 0)]
/-- ThreadBankModel.readLine()V -/
def qc_159 : List qm_E := [
  (0, (.aload_n 0, 1, 0, 0, .null, []), 0, 0),
  (1, (.getfield 96, 4, 5, 12, .null, []), 4, 104),
  (4, (.iconst 1, 5, 0, 0, .int 1, []), 0, 0),
  (5, (.if_icmp .ne 10, 8, 15, 0, .null, []), 0, 0),
  (8, (.aload_n 0, 9, 0, 0, .null, []), 0, 0),
  (9, (.invokevirtual 135, 12, 151, 0, .null, []), 4, 207),
  (12, (.goto 5, 15, 17, 0, .null, []), 0, 0),
  (15, (.bipush (-4), 17, 0, 0, .int (-4 : Int32), []), 0, 0),
  (17, (.istore_n 1, 18, 1, 0, .null, []), 0, 0),
  (18, (.aload_n 0, 19, 0, 0, .null, []), 0, 0),
  (19, (.iload_n 1, 20, 1, 0, .null, []), 0, 0),
  (20, (.bipush (-4), 22, 0, 0, .int (-4 : Int32), []), 0, 0),
  (22, (.if_icmp .eq 7, 25, 29, 0, .null, []), 0, 0),
  (25, (.iconst 1, 26, 0, 0, .int 1, []), 0, 0),
  (26, (.goto 4, 29, 30, 0, .null, []), 0, 0),
  (29, (.iconst 0, 30, 0, 0, .int 0, []), 0, 0),
  (30, (.iconst 2, 31, 0, 0, .int 2, []), 0, 0),
  (31, (.invokevirtual 110, 34, 147, 2, .null, []), 4, 199),
  (34, (.aload_n 0, 35, 0, 0, .null, []), 0, 0),
  (35, (.iload_n 1, 36, 1, 0, .null, []), 0, 0),
  (36, (.iconst 5, 37, 0, 0, .int 5, []), 0, 0),
  (37, (.if_icmp .ne 22, 40, 59, 0, .null, []), 0, 0),
  (40, (.aload_n 0, 41, 0, 0, .null, []), 0, 0),
  (41, (.getfield 20, 44, 5, 4, .null, []), 4, 96),
  (44, (.iconst 4, 45, 0, 0, .int 4, []), 0, 0),
  (45, (.iaload, 46, 0, 0, .null, []), 0, 0),
  (46, (.bipush 10, 48, 0, 0, .int 10, []), 0, 0),
  (48, (.if_icmp .ge 7, 51, 55, 0, .null, []), 0, 0),
  (51, (.iconst 1, 52, 0, 0, .int 1, []), 0, 0),
  (52, (.goto 25, 55, 77, 0, .null, []), 0, 0),
  (55, (.iconst 0, 56, 0, 0, .int 0, []), 0, 0),
  (56, (.goto 21, 59, 77, 0, .null, []), 0, 0),
  (59, (.iload_n 1, 60, 1, 0, .null, []), 0, 0),
  (60, (.iconst 4, 61, 0, 0, .int 4, []), 0, 0),
  (61, (.if_icmp .eq 11, 64, 72, 0, .null, []), 0, 0),
  (64, (.aload_n 0, 65, 0, 0, .null, []), 0, 0),
  (65, (.getfield 50, 68, 5, 5, .null, []), 4, 97),
  (68, (.iconst 4, 69, 0, 0, .int 4, []), 0, 0),
  (69, (.if_icmp .ge 7, 72, 76, 0, .null, []), 0, 0),
  (72, (.iconst 1, 73, 0, 0, .int 1, []), 0, 0),
  (73, (.goto 4, 76, 77, 0, .null, []), 0, 0),
  (76, (.iconst 0, 77, 0, 0, .int 0, []), 0, 0),
  (77, (.iconst 5, 78, 0, 0, .int 5, []), 0, 0),
  (78, (.invokevirtual 110, 81, 147, 2, .null, []), 4, 199),
  (81, (.aload_n 0, 82, 0, 0, .null, []), 0, 0),
  (82, (.iload_n 1, 83, 1, 0, .null, []), 0, 0),
  (83, (.iconst 4, 84, 0, 0, .int 4, []), 0, 0),
  (84, (.if_icmp .ne 10, 87, 94, 0, .null, []), 0, 0),
  (87, (.aload_n 0, 88, 0, 0, .null, []), 0, 0),
  (88, (.getfield 54, 91, 5, 6, .null, []), 4, 98),
  (91, (.ifCond .ne 7, 94, 98, 0, .null, []), 0, 0),
  (94, (.iconst 1, 95, 0, 0, .int 1, []), 0, 0),
  (95, (.goto 4, 98, 99, 0, .null, []), 0, 0),
  (98, (.iconst 0, 99, 0, 0, .int 0, []), 0, 0),
  (99, (.iconst 4, 100, 0, 0, .int 4, []), 0, 0),
  (100, (.invokevirtual 110, 103, 147, 2, .null, []), 4, 199),
  (103, (.aload_n 0, 104, 0, 0, .null, []), 0, 0),
  (104, (.aload_n 0, 105, 0, 0, .null, []), 0, 0),
  (105, (.getfield 54, 108, 5, 6, .null, []), 4, 98),
  (108, (.ifCond .ne 8, 111, 116, 0, .null, []), 0, 0),
  (111, (.iload_n 1, 112, 1, 0, .null, []), 0, 0),
  (112, (.iconst 4, 113, 0, 0, .int 4, []), 0, 0),
  (113, (.if_icmp .ne 7, 116, 120, 0, .null, []), 0, 0),
  (116, (.iconst 1, 117, 0, 0, .int 1, []), 0, 0),
  (117, (.goto 4, 120, 121, 0, .null, []), 0, 0),
  (120, (.iconst 0, 121, 0, 0, .int 0, []), 0, 0),
  (121, (.putfield 54, 124, 5, 6, .null, []), 4, 98),
  (124, (.aload_n 0, 125, 0, 0, .null, []), 0, 0),
  (125, (.invokevirtual 118, 128, 152, 0, .null, []), 4, 187),
  (128, (.aload_n 0, 129, 0, 0, .null, []), 0, 0),
  (129, (.getfield 73, 132, 5, 14, .null, []), 4, 106),
  (132, (.ifCond .le 4, 135, 136, 0, .null, []), 0, 0),
  (135, (.return_, 136, 0, 0, .null, []), 0, 0),
  (136, (.aload_n 0, 137, 0, 0, .null, []), 0, 0),
  (137, (.iload_n 1, 138, 1, 0, .null, []), 0, 0),
  (138, (.invokevirtual 138, 141, 158, 1, .null, []), 4, 219),
  (141, (.aload_n 0, 142, 0, 0, .null, []), 0, 0),
  (142, (.getfield 73, 145, 5, 14, .null, []), 4, 106),
  (145, (.ifCond .ne 21, 148, 166, 0, .null, []), 0, 0),
  (148, (.aload_n 0, 149, 0, 0, .null, []), 0, 0),
  (149, (.aload_n 0, 150, 0, 0, .null, []), 0, 0),
  (150, (.getfield 96, 153, 5, 12, .null, []), 4, 104),
  (153, (.iconst 3, 154, 0, 0, .int 3, []), 0, 0),
  (154, (.if_icmp .ne 7, 157, 161, 0, .null, []), 0, 0),
  (157, (.iconst 1, 158, 0, 0, .int 1, []), 0, 0),
  (158, (.goto 4, 161, 162, 0, .null, []), 0, 0),
  (161, (.iconst 0, 162, 0, 0, .int 0, []), 0, 0),
  (162, (.iconst 2, 163, 0, 0, .int 2, []), 0, 0),
  (163, (.invokevirtual 110, 166, 147, 2, .null, []), 4, 199),
  (166, (.aload_n 0, 167, 0, 0, .null, []), 0, 0),
  (167, (.invokevirtual 118, 170, 152, 0, .null, []), 4, 187),
  (170, (.return_, 171, 0, 0, .null, []), 0, 0)]
/-- ThreadBankModel.roomOf(II)I -/
def qc_160 : List qm_E := [
  (0, (.iload_n 0, 1, 0, 0, .null, []), 0, 0),
  (1, (.tableswitch 51 1 3 #[27, 38, 49], 28, 52, 0, .null, [(1, 28), (2, 39), (3, 50)]), 0, 0),
  (28, (.iload_n 1, 29, 1, 0, .null, []), 0, 0),
  (29, (.iconst 3, 30, 0, 0, .int 3, []), 0, 0),
  (30, (.if_icmp .ne 7, 33, 37, 0, .null, []), 0, 0),
  (33, (.iconst 0, 34, 0, 0, .int 0, []), 0, 0),
  (34, (.goto 4, 37, 38, 0, .null, []), 0, 0),
  (37, (.iconst 2, 38, 0, 0, .int 2, []), 0, 0),
  (38, (.ireturn, 39, 0, 0, .null, []), 0, 0),
  (39, (.iload_n 1, 40, 1, 0, .null, []), 0, 0),
  (40, (.iconst 3, 41, 0, 0, .int 3, []), 0, 0),
  (41, (.if_icmp .ne 7, 44, 48, 0, .null, []), 0, 0),
  (44, (.iconst 0, 45, 0, 0, .int 0, []), 0, 0),
  (45, (.goto 4, 48, 49, 0, .null, []), 0, 0),
  (48, (.iconst 3, 49, 0, 0, .int 3, []), 0, 0),
  (49, (.ireturn, 50, 0, 0, .null, []), 0, 0),
  (50, (.iconst 1, 51, 0, 0, .int 1, []), 0, 0),
  (51, (.ireturn, 52, 0, 0, .null, []), 0, 0),
  (52, (.iconst 2, 53, 0, 0, .int 2, []), 0, 0),
  (53, (.ireturn, 54, 0, 0, .null, []), 0, 0)]
/-- ThreadBankModel.doFit()Z -/
def qc_161 : List qm_E := [
  (0, (.iconst 1, 1, 0, 0, .int 1, []), 0, 0),
  (1, (.istore_n 1, 2, 1, 0, .null, []), 0, 0),
  (2, (.iconst 0, 3, 0, 0, .int 0, []), 0, 0),
  (3, (.istore_n 2, 4, 2, 0, .null, []), 0, 0),
  (4, (.iload_n 2, 5, 2, 0, .null, []), 0, 0),
  (5, (.aload_n 0, 6, 0, 0, .null, []), 0, 0),
  (6, (.getfield 50, 9, 5, 5, .null, []), 4, 97),
  (9, (.if_icmp .ge 108, 12, 117, 0, .null, []), 0, 0),
  (12, (.iconst 0, 13, 0, 0, .int 0, []), 0, 0),
  (13, (.istore_n 3, 14, 3, 0, .null, []), 0, 0),
  (14, (.iload_n 3, 15, 3, 0, .null, []), 0, 0),
  (15, (.iconst 5, 16, 0, 0, .int 5, []), 0, 0),
  (16, (.if_icmp .ge 95, 19, 111, 0, .null, []), 0, 0),
  (19, (.iconst 0, 20, 0, 0, .int 0, []), 0, 0),
  (20, (.istore 4, 22, 4, 0, .null, []), 0, 0),
  (22, (.iconst 0, 23, 0, 0, .int 0, []), 0, 0),
  (23, (.istore 5, 25, 5, 0, .null, []), 0, 0),
  (25, (.iload 5, 27, 5, 0, .null, []), 0, 0),
  (27, (.aload_n 0, 28, 0, 0, .null, []), 0, 0),
  (28, (.getfield 20, 31, 5, 4, .null, []), 4, 96),
  (31, (.iconst 4, 32, 0, 0, .int 4, []), 0, 0),
  (32, (.iaload, 33, 0, 0, .null, []), 0, 0),
  (33, (.if_icmp .ge 45, 36, 78, 0, .null, []), 0, 0),
  (36, (.iload 4, 38, 4, 0, .null, []), 0, 0),
  (38, (.aload_n 0, 39, 0, 0, .null, []), 0, 0),
  (39, (.getfield 20, 42, 5, 4, .null, []), 4, 96),
  (42, (.bipush 6, 44, 0, 0, .int 6, []), 0, 0),
  (44, (.iconst 3, 45, 0, 0, .int 3, []), 0, 0),
  (45, (.iload 5, 47, 5, 0, .null, []), 0, 0),
  (47, (.imul, 48, 0, 0, .null, []), 0, 0),
  (48, (.iadd, 49, 0, 0, .null, []), 0, 0),
  (49, (.iconst 0, 50, 0, 0, .int 0, []), 0, 0),
  (50, (.iadd, 51, 0, 0, .null, []), 0, 0),
  (51, (.iaload, 52, 0, 0, .null, []), 0, 0),
  (52, (.bipush 10, 54, 0, 0, .int 10, []), 0, 0),
  (54, (.iload_n 2, 55, 2, 0, .null, []), 0, 0),
  (55, (.imul, 56, 0, 0, .null, []), 0, 0),
  (56, (.iload_n 3, 57, 3, 0, .null, []), 0, 0),
  (57, (.iadd, 58, 0, 0, .null, []), 0, 0),
  (58, (.if_icmp .ne 7, 61, 65, 0, .null, []), 0, 0),
  (61, (.iconst 1, 62, 0, 0, .int 1, []), 0, 0),
  (62, (.goto 4, 65, 66, 0, .null, []), 0, 0),
  (65, (.iconst 0, 66, 0, 0, .int 0, []), 0, 0),
  (66, (.invokestatic 141, 69, 142, 1, .null, []), 5, 7),
  (69, (.iadd, 70, 0, 0, .null, []), 0, 0),
  (70, (.istore 4, 72, 4, 0, .null, []), 0, 0),
  (72, (.iinc 5 1, 75, 5, 0, .int 1, []), 0, 0),
  (75, (.goto (-50), 78, 25, 0, .null, []), 0, 0),
  (78, (.iload_n 1, 79, 1, 0, .null, []), 0, 0),
  (79, (.ifCond .eq 24, 82, 103, 0, .null, []), 0, 0),
  (82, (.iload 4, 84, 4, 0, .null, []), 0, 0),
  (84, (.aload_n 0, 85, 0, 0, .null, []), 0, 0),
  (85, (.getfield 20, 88, 5, 4, .null, []), 4, 96),
  (88, (.iconst 0, 89, 0, 0, .int 0, []), 0, 0),
  (89, (.iload_n 2, 90, 2, 0, .null, []), 0, 0),
  (90, (.iadd, 91, 0, 0, .null, []), 0, 0),
  (91, (.iaload, 92, 0, 0, .null, []), 0, 0),
  (92, (.iload_n 3, 93, 3, 0, .null, []), 0, 0),
  (93, (.invokestatic 145, 96, 160, 2, .null, []), 5, 10),
  (96, (.if_icmp .gt 7, 99, 103, 0, .null, []), 0, 0),
  (99, (.iconst 1, 100, 0, 0, .int 1, []), 0, 0),
  (100, (.goto 4, 103, 104, 0, .null, []), 0, 0),
  (103, (.iconst 0, 104, 0, 0, .int 0, []), 0, 0),
  (104, (.istore_n 1, 105, 1, 0, .null, []), 0, 0),
  (105, (.iinc 3 1, 108, 3, 0, .int 1, []), 0, 0),
  (108, (.goto (-94), 111, 14, 0, .null, []), 0, 0),
  (111, (.iinc 2 1, 114, 2, 0, .int 1, []), 0, 0),
  (114, (.goto (-110), 117, 4, 0, .null, []), 0, 0),
  (117, (.iload_n 1, 118, 1, 0, .null, []), 0, 0),
  (118, (.ireturn, 119, 0, 0, .null, []), 0, 0)]
/-- ThreadBankModel.text()I -/
def qc_162 : List qm_E := [
  (0, (.iconst 0, 1, 0, 0, .int 0, []), 0, 0),
  (1, (.istore_n 1, 2, 1, 0, .null, []), 0, 0),
  (2, (.aload_n 0, 3, 0, 0, .null, []), 0, 0),
  (3, (.iconst 0, 4, 0, 0, .int 0, []), 0, 0),
  (4, (.putfield 73, 7, 5, 14, .null, []), 4, 106),
  (7, (.aload_n 0, 8, 0, 0, .null, []), 0, 0),
  (8, (.iconst 0, 9, 0, 0, .int 0, []), 0, 0),
  (9, (.putfield 82, 12, 5, 10, .null, []), 4, 102),
  (12, (.aload_n 0, 13, 0, 0, .null, []), 0, 0),
  (13, (.invokevirtual 44, 16, 143, 0, .null, []), 4, 84),
  (16, (.aload_n 0, 17, 0, 0, .null, []), 0, 0),
  (17, (.invokevirtual 118, 20, 152, 0, .null, []), 4, 187),
  (20, (.aload_n 0, 21, 0, 0, .null, []), 0, 0),
  (21, (.getfield 73, 24, 5, 14, .null, []), 4, 106),
  (24, (.ifCond .ne 20, 27, 44, 0, .null, []), 0, 0),
  (27, (.aload_n 0, 28, 0, 0, .null, []), 0, 0),
  (28, (.getfield 96, 31, 5, 12, .null, []), 4, 104),
  (31, (.ifCond .eq 13, 34, 44, 0, .null, []), 0, 0),
  (34, (.aload_n 0, 35, 0, 0, .null, []), 0, 0),
  (35, (.invokevirtual 148, 38, 159, 0, .null, []), 4, 203),
  (38, (.iinc 1 1, 41, 1, 0, .int 1, []), 0, 0),
  (41, (.goto (-21), 44, 20, 0, .null, []), 0, 0),
  (44, (.aload_n 0, 45, 0, 0, .null, []), 0, 0),
  (45, (.getfield 73, 48, 5, 14, .null, []), 4, 106),
  (48, (.ifCond .ne 35, 51, 83, 0, .null, []), 0, 0),
  (51, (.aload_n 0, 52, 0, 0, .null, []), 0, 0),
  (52, (.aload_n 0, 53, 0, 0, .null, []), 0, 0),
  (53, (.getfield 58, 56, 5, 7, .null, []), 4, 99),
  (56, (.aload_n 0, 57, 0, 0, .null, []), 0, 0),
  (57, (.getfield 50, 60, 5, 5, .null, []), 4, 97),
  (60, (.if_icmp .ge 7, 63, 67, 0, .null, []), 0, 0),
  (63, (.iconst 1, 64, 0, 0, .int 1, []), 0, 0),
  (64, (.goto 4, 67, 68, 0, .null, []), 0, 0),
  (67, (.iconst 0, 68, 0, 0, .int 0, []), 0, 0),
  (68, (.bipush 6, 70, 0, 0, .int 6, []), 0, 0),
  (70, (.invokevirtual 110, 73, 147, 2, .null, []), 4, 199),
  (73, (.aload_n 0, 74, 0, 0, .null, []), 0, 0),
  (74, (.aload_n 0, 75, 0, 0, .null, []), 0, 0),
  (75, (.invokevirtual 151, 78, 161, 0, .null, []), 5, 3),
  (78, (.bipush 7, 80, 0, 0, .int 7, []), 0, 0),
  (80, (.invokevirtual 110, 83, 147, 2, .null, []), 4, 199),
  (83, (.aload_n 0, 84, 0, 0, .null, []), 0, 0),
  (84, (.iconst 0, 85, 0, 0, .int 0, []), 0, 0),
  (85, (.putfield 70, 88, 5, 9, .null, []), 4, 101),
  (88, (.aload_n 0, 89, 0, 0, .null, []), 0, 0),
  (89, (.getfield 73, 92, 5, 14, .null, []), 4, 106),
  (92, (.ifCond .le 11, 95, 103, 0, .null, []), 0, 0),
  (95, (.bipush (-10), 97, 0, 0, .int (-10 : Int32), []), 0, 0),
  (97, (.aload_n 0, 98, 0, 0, .null, []), 0, 0),
  (98, (.getfield 79, 101, 5, 15, .null, []), 4, 107),
  (101, (.isub, 102, 0, 0, .null, []), 0, 0),
  (102, (.ireturn, 103, 0, 0, .null, []), 0, 0),
  (103, (.aload_n 0, 104, 0, 0, .null, []), 0, 0),
  (104, (.invokevirtual 47, 107, 144, 0, .null, []), 4, 88),
  (107, (.iload_n 1, 108, 1, 0, .null, []), 0, 0),
  (108, (.ireturn, 109, 0, 0, .null, []), 0, 0)]
/-- ThreadBankModel.fault()I -/
def qc_163 : List qm_E := [
  (0, (.aload_n 0, 1, 0, 0, .null, []), 0, 0),
  (1, (.getfield 73, 4, 5, 14, .null, []), 4, 106),
  (4, (.ireturn, 5, 0, 0, .null, []), 0, 0)]
/-- ThreadBankModel.isClerk(I)Z -/
def qc_164 : List qm_E := [
  (0, (.iload_n 1, 1, 1, 0, .null, []), 0, 0),
  (1, (.i2l, 2, 0, 0, .null, []), 0, 0),
  (2, (.lconst 0, 3, 0, 0, .long 0, []), 0, 0),
  (3, (.aload_n 0, 4, 0, 0, .null, []), 0, 0),
  (4, (.getfield 61, 7, 5, 3, .null, []), 4, 95),
  (7, (.iconst 1, 8, 0, 0, .int 1, []), 0, 0),
  (8, (.isub, 9, 0, 0, .null, []), 0, 0),
  (9, (.i2l, 10, 0, 0, .null, []), 0, 0),
  (10, (.invokestatic 66, 13, 141, 3, .null, []), 4, 176),
  (13, (.ireturn, 14, 0, 0, .null, []), 0, 0)]
/-- ThreadBankModel.isPlace(I)Z -/
def qc_165 : List qm_E := [
  (0, (.iload_n 1, 1, 1, 0, .null, []), 0, 0),
  (1, (.ifCond .lt 26, 4, 27, 0, .null, []), 0, 0),
  (4, (.aload_n 0, 5, 0, 0, .null, []), 0, 0),
  (5, (.iload_n 1, 6, 1, 0, .null, []), 0, 0),
  (6, (.bipush 10, 8, 0, 0, .int 10, []), 0, 0),
  (8, (.idiv, 9, 0, 0, .null, []), 0, 0),
  (9, (.invokevirtual 155, 12, 164, 1, .null, []), 5, 45),
  (12, (.ifCond .eq 15, 15, 27, 0, .null, []), 0, 0),
  (15, (.iload_n 1, 16, 1, 0, .null, []), 0, 0),
  (16, (.bipush 10, 18, 0, 0, .int 10, []), 0, 0),
  (18, (.irem, 19, 0, 0, .null, []), 0, 0),
  (19, (.iconst 5, 20, 0, 0, .int 5, []), 0, 0),
  (20, (.if_icmp .ge 7, 23, 27, 0, .null, []), 0, 0),
  (23, (.iconst 1, 24, 0, 0, .int 1, []), 0, 0),
  (24, (.goto 4, 27, 28, 0, .null, []), 0, 0),
  (27, (.iconst 0, 28, 0, 0, .int 0, []), 0, 0),
  (28, (.ireturn, 29, 0, 0, .null, []), 0, 0)]
/-- ThreadBankModel.isPair(I)Z -/
def qc_166 : List qm_E := [
  (0, (.iload_n 1, 1, 1, 0, .null, []), 0, 0),
  (1, (.ifCond .lt 40, 4, 41, 0, .null, []), 0, 0),
  (4, (.aload_n 0, 5, 0, 0, .null, []), 0, 0),
  (5, (.iload_n 1, 6, 1, 0, .null, []), 0, 0),
  (6, (.bipush 10, 8, 0, 0, .int 10, []), 0, 0),
  (8, (.idiv, 9, 0, 0, .null, []), 0, 0),
  (9, (.invokevirtual 155, 12, 164, 1, .null, []), 5, 45),
  (12, (.ifCond .eq 29, 15, 41, 0, .null, []), 0, 0),
  (15, (.aload_n 0, 16, 0, 0, .null, []), 0, 0),
  (16, (.iload_n 1, 17, 1, 0, .null, []), 0, 0),
  (17, (.bipush 10, 19, 0, 0, .int 10, []), 0, 0),
  (19, (.irem, 20, 0, 0, .null, []), 0, 0),
  (20, (.invokevirtual 155, 23, 164, 1, .null, []), 5, 45),
  (23, (.ifCond .eq 18, 26, 41, 0, .null, []), 0, 0),
  (26, (.iload_n 1, 27, 1, 0, .null, []), 0, 0),
  (27, (.bipush 10, 29, 0, 0, .int 10, []), 0, 0),
  (29, (.idiv, 30, 0, 0, .null, []), 0, 0),
  (30, (.iload_n 1, 31, 1, 0, .null, []), 0, 0),
  (31, (.bipush 10, 33, 0, 0, .int 10, []), 0, 0),
  (33, (.irem, 34, 0, 0, .null, []), 0, 0),
  (34, (.if_icmp .eq 7, 37, 41, 0, .null, []), 0, 0),
  (37, (.iconst 1, 38, 0, 0, .int 1, []), 0, 0),
  (38, (.goto 4, 41, 42, 0, .null, []), 0, 0),
  (41, (.iconst 0, 42, 0, 0, .int 0, []), 0, 0),
  (42, (.ireturn, 43, 0, 0, .null, []), 0, 0)]
/-- ThreadBankModel.isThread(I)Z -/
def qc_167 : List qm_E := [
  (0, (.iload_n 1, 1, 1, 0, .null, []), 0, 0),
  (1, (.i2l, 2, 0, 0, .null, []), 0, 0),
  (2, (.lconst 0, 3, 0, 0, .long 0, []), 0, 0),
  (3, (.aload_n 0, 4, 0, 0, .null, []), 0, 0),
  (4, (.getfield 7, 7, 5, 0, .null, []), 4, 92),
  (7, (.iconst 4, 8, 0, 0, .int 4, []), 0, 0),
  (8, (.iaload, 9, 0, 0, .null, []), 0, 0),
  (9, (.iconst 1, 10, 0, 0, .int 1, []), 0, 0),
  (10, (.isub, 11, 0, 0, .null, []), 0, 0),
  (11, (.i2l, 12, 0, 0, .null, []), 0, 0),
  (12, (.invokestatic 66, 15, 141, 3, .null, []), 4, 176),
  (15, (.ireturn, 16, 0, 0, .null, []), 0, 0)]
/-- ThreadBankModel.isPart(I)Z -/
def qc_168 : List qm_E := [
  (0, (.iload_n 0, 1, 0, 0, .null, []), 0, 0),
  (1, (.i2l, 2, 0, 0, .null, []), 0, 0),
  (2, (.lconst 0, 3, 0, 0, .long 0, []), 0, 0),
  (3, (.lconst 1, 4, 0, 0, .long 1, []), 0, 0),
  (4, (.invokestatic 66, 7, 141, 3, .null, []), 4, 176),
  (7, (.ireturn, 8, 0, 0, .null, []), 0, 0)]
/-- ThreadBankModel.starts()V -/
def qc_169 : List qm_E := [
  (0, (.iconst 0, 1, 0, 0, .int 0, []), 0, 0),
  (1, (.istore_n 1, 2, 1, 0, .null, []), 0, 0),
  (2, (.iload_n 1, 3, 1, 0, .null, []), 0, 0),
  (3, (.bipush 49, 5, 0, 0, .int 49, []), 0, 0),
  (5, (.if_icmp .ge 21, 8, 26, 0, .null, []), 0, 0),
  (8, (.aload_n 0, 9, 0, 0, .null, []), 0, 0),
  (9, (.getfield 13, 12, 5, 1, .null, []), 4, 93),
  (12, (.iload_n 1, 13, 1, 0, .null, []), 0, 0),
  (13, (.aload_n 0, 14, 0, 0, .null, []), 0, 0),
  (14, (.getfield 7, 17, 5, 0, .null, []), 4, 92),
  (17, (.iload_n 1, 18, 1, 0, .null, []), 0, 0),
  (18, (.iaload, 19, 0, 0, .null, []), 0, 0),
  (19, (.iastore, 20, 0, 0, .null, []), 0, 0),
  (20, (.iinc 1 1, 23, 1, 0, .int 1, []), 0, 0),
  (23, (.goto (-21), 26, 2, 0, .null, []), 0, 0),
  (26, (.return_, 27, 0, 0, .null, []), 0, 0)]
/-- ThreadBankModel.settles()V -/
def qc_170 : List qm_E := [
  (0, (.iconst 0, 1, 0, 0, .int 0, []), 0, 0),
  (1, (.istore_n 1, 2, 1, 0, .null, []), 0, 0),
  (2, (.iload_n 1, 3, 1, 0, .null, []), 0, 0),
  (3, (.bipush 49, 5, 0, 0, .int 49, []), 0, 0),
  (5, (.if_icmp .ge 21, 8, 26, 0, .null, []), 0, 0),
  (8, (.aload_n 0, 9, 0, 0, .null, []), 0, 0),
  (9, (.getfield 7, 12, 5, 0, .null, []), 4, 92),
  (12, (.iload_n 1, 13, 1, 0, .null, []), 0, 0),
  (13, (.aload_n 0, 14, 0, 0, .null, []), 0, 0),
  (14, (.getfield 13, 17, 5, 1, .null, []), 4, 93),
  (17, (.iload_n 1, 18, 1, 0, .null, []), 0, 0),
  (18, (.iaload, 19, 0, 0, .null, []), 0, 0),
  (19, (.iastore, 20, 0, 0, .null, []), 0, 0),
  (20, (.iinc 1 1, 23, 1, 0, .int 1, []), 0, 0),
  (23, (.goto (-21), 26, 2, 0, .null, []), 0, 0),
  (26, (.return_, 27, 0, 0, .null, []), 0, 0)]
/-- ThreadBankModel.of(II)I -/
def qc_171 : List qm_E := [
  (0, (.aload_n 0, 1, 0, 0, .null, []), 0, 0),
  (1, (.getfield 13, 4, 5, 1, .null, []), 4, 93),
  (4, (.bipush 6, 6, 0, 0, .int 6, []), 0, 0),
  (6, (.iconst 3, 7, 0, 0, .int 3, []), 0, 0),
  (7, (.iload_n 1, 8, 1, 0, .null, []), 0, 0),
  (8, (.imul, 9, 0, 0, .null, []), 0, 0),
  (9, (.iadd, 10, 0, 0, .null, []), 0, 0),
  (10, (.iload_n 2, 11, 2, 0, .null, []), 0, 0),
  (11, (.iadd, 12, 0, 0, .null, []), 0, 0),
  (12, (.iaload, 13, 0, 0, .null, []), 0, 0),
  (13, (.ireturn, 14, 0, 0, .null, []), 0, 0)]
/-- ThreadBankModel.handOf(I)I -/
def qc_172 : List qm_E := [
  (0, (.aload_n 0, 1, 0, 0, .null, []), 0, 0),
  (1, (.iload_n 1, 2, 1, 0, .null, []), 0, 0),
  (2, (.iconst 0, 3, 0, 0, .int 0, []), 0, 0),
  (3, (.invokevirtual 159, 6, 171, 2, .null, []), 5, 37),
  (6, (.bipush 10, 8, 0, 0, .int 10, []), 0, 0),
  (8, (.idiv, 9, 0, 0, .null, []), 0, 0),
  (9, (.ireturn, 10, 0, 0, .null, []), 0, 0)]
/-- ThreadBankModel.room(I)I -/
def qc_173 : List qm_E := [
  (0, (.aload_n 0, 1, 0, 0, .null, []), 0, 0),
  (1, (.getfield 13, 4, 5, 1, .null, []), 4, 93),
  (4, (.iconst 0, 5, 0, 0, .int 0, []), 0, 0),
  (5, (.iload_n 1, 6, 1, 0, .null, []), 0, 0),
  (6, (.bipush 10, 8, 0, 0, .int 10, []), 0, 0),
  (8, (.idiv, 9, 0, 0, .null, []), 0, 0),
  (9, (.iadd, 10, 0, 0, .null, []), 0, 0),
  (10, (.iaload, 11, 0, 0, .null, []), 0, 0),
  (11, (.iload_n 1, 12, 1, 0, .null, []), 0, 0),
  (12, (.bipush 10, 14, 0, 0, .int 10, []), 0, 0),
  (14, (.irem, 15, 0, 0, .null, []), 0, 0),
  (15, (.invokestatic 145, 18, 160, 2, .null, []), 5, 10),
  (18, (.ireturn, 19, 0, 0, .null, []), 0, 0)]
/-- ThreadBankModel.tiedAt(I)I -/
def qc_174 : List qm_E := [
  (0, (.iconst 0, 1, 0, 0, .int 0, []), 0, 0),
  (1, (.istore_n 2, 2, 2, 0, .null, []), 0, 0),
  (2, (.iconst 0, 3, 0, 0, .int 0, []), 0, 0),
  (3, (.istore_n 3, 4, 3, 0, .null, []), 0, 0),
  (4, (.iload_n 3, 5, 3, 0, .null, []), 0, 0),
  (5, (.aload_n 0, 6, 0, 0, .null, []), 0, 0),
  (6, (.getfield 13, 9, 5, 1, .null, []), 4, 93),
  (9, (.iconst 4, 10, 0, 0, .int 4, []), 0, 0),
  (10, (.iaload, 11, 0, 0, .null, []), 0, 0),
  (11, (.if_icmp .ge 30, 14, 41, 0, .null, []), 0, 0),
  (14, (.iload_n 2, 15, 2, 0, .null, []), 0, 0),
  (15, (.aload_n 0, 16, 0, 0, .null, []), 0, 0),
  (16, (.iload_n 3, 17, 3, 0, .null, []), 0, 0),
  (17, (.iconst 0, 18, 0, 0, .int 0, []), 0, 0),
  (18, (.invokevirtual 159, 21, 171, 2, .null, []), 5, 37),
  (21, (.iload_n 1, 22, 1, 0, .null, []), 0, 0),
  (22, (.if_icmp .ne 7, 25, 29, 0, .null, []), 0, 0),
  (25, (.iconst 1, 26, 0, 0, .int 1, []), 0, 0),
  (26, (.goto 4, 29, 30, 0, .null, []), 0, 0),
  (29, (.iconst 0, 30, 0, 0, .int 0, []), 0, 0),
  (30, (.invokestatic 141, 33, 142, 1, .null, []), 5, 7),
  (33, (.iadd, 34, 0, 0, .null, []), 0, 0),
  (34, (.istore_n 2, 35, 2, 0, .null, []), 0, 0),
  (35, (.iinc 3 1, 38, 3, 0, .int 1, []), 0, 0),
  (38, (.goto (-34), 41, 4, 0, .null, []), 0, 0),
  (41, (.iload_n 2, 42, 2, 0, .null, []), 0, 0),
  (42, (.ireturn, 43, 0, 0, .null, []), 0, 0)]
/-- ThreadBankModel.tiedOn(I)I -/
def qc_175 : List qm_E := [
  (0, (.iconst 0, 1, 0, 0, .int 0, []), 0, 0),
  (1, (.istore_n 2, 2, 2, 0, .null, []), 0, 0),
  (2, (.iconst 0, 3, 0, 0, .int 0, []), 0, 0),
  (3, (.istore_n 3, 4, 3, 0, .null, []), 0, 0),
  (4, (.iload_n 3, 5, 3, 0, .null, []), 0, 0),
  (5, (.aload_n 0, 6, 0, 0, .null, []), 0, 0),
  (6, (.getfield 13, 9, 5, 1, .null, []), 4, 93),
  (9, (.iconst 4, 10, 0, 0, .int 4, []), 0, 0),
  (10, (.iaload, 11, 0, 0, .null, []), 0, 0),
  (11, (.if_icmp .ge 29, 14, 40, 0, .null, []), 0, 0),
  (14, (.iload_n 2, 15, 2, 0, .null, []), 0, 0),
  (15, (.aload_n 0, 16, 0, 0, .null, []), 0, 0),
  (16, (.iload_n 3, 17, 3, 0, .null, []), 0, 0),
  (17, (.invokevirtual 162, 20, 172, 1, .null, []), 5, 61),
  (20, (.iload_n 1, 21, 1, 0, .null, []), 0, 0),
  (21, (.if_icmp .ne 7, 24, 28, 0, .null, []), 0, 0),
  (24, (.iconst 1, 25, 0, 0, .int 1, []), 0, 0),
  (25, (.goto 4, 28, 29, 0, .null, []), 0, 0),
  (28, (.iconst 0, 29, 0, 0, .int 0, []), 0, 0),
  (29, (.invokestatic 141, 32, 142, 1, .null, []), 5, 7),
  (32, (.iadd, 33, 0, 0, .null, []), 0, 0),
  (33, (.istore_n 2, 34, 2, 0, .null, []), 0, 0),
  (34, (.iinc 3 1, 37, 3, 0, .int 1, []), 0, 0),
  (37, (.goto (-33), 40, 4, 0, .null, []), 0, 0),
  (40, (.iload_n 2, 41, 2, 0, .null, []), 0, 0),
  (41, (.ireturn, 42, 0, 0, .null, []), 0, 0)]
/-- ThreadBankModel.handRoom(I)I -/
def qc_176 : List qm_E := [
  (0, (.iconst 0, 1, 0, 0, .int 0, []), 0, 0),
  (1, (.istore_n 2, 2, 2, 0, .null, []), 0, 0),
  (2, (.iconst 0, 3, 0, 0, .int 0, []), 0, 0),
  (3, (.istore_n 3, 4, 3, 0, .null, []), 0, 0),
  (4, (.iload_n 3, 5, 3, 0, .null, []), 0, 0),
  (5, (.iconst 5, 6, 0, 0, .int 5, []), 0, 0),
  (6, (.if_icmp .ge 22, 9, 28, 0, .null, []), 0, 0),
  (9, (.iload_n 2, 10, 2, 0, .null, []), 0, 0),
  (10, (.aload_n 0, 11, 0, 0, .null, []), 0, 0),
  (11, (.bipush 10, 13, 0, 0, .int 10, []), 0, 0),
  (13, (.iload_n 1, 14, 1, 0, .null, []), 0, 0),
  (14, (.imul, 15, 0, 0, .null, []), 0, 0),
  (15, (.iload_n 3, 16, 3, 0, .null, []), 0, 0),
  (16, (.iadd, 17, 0, 0, .null, []), 0, 0),
  (17, (.invokevirtual 165, 20, 173, 1, .null, []), 5, 29),
  (20, (.iadd, 21, 0, 0, .null, []), 0, 0),
  (21, (.istore_n 2, 22, 2, 0, .null, []), 0, 0),
  (22, (.iinc 3 1, 25, 3, 0, .int 1, []), 0, 0),
  (25, (.goto (-21), 28, 4, 0, .null, []), 0, 0),
  (28, (.iload_n 2, 29, 2, 0, .null, []), 0, 0),
  (29, (.ireturn, 30, 0, 0, .null, []), 0, 0)]
/-- ThreadBankModel.cuts(I)V -/
def qc_177 : List qm_E := [
  (0, (.iconst 0, 1, 0, 0, .int 0, []), 0, 0),
  (1, (.istore_n 2, 2, 2, 0, .null, []), 0, 0),
  (2, (.iconst 0, 3, 0, 0, .int 0, []), 0, 0),
  (3, (.istore_n 3, 4, 3, 0, .null, []), 0, 0),
  (4, (.iload_n 3, 5, 3, 0, .null, []), 0, 0),
  (5, (.aload_n 0, 6, 0, 0, .null, []), 0, 0),
  (6, (.getfield 13, 9, 5, 1, .null, []), 4, 93),
  (9, (.iconst 4, 10, 0, 0, .int 4, []), 0, 0),
  (10, (.iaload, 11, 0, 0, .null, []), 0, 0),
  (11, (.if_icmp .ge 56, 14, 67, 0, .null, []), 0, 0),
  (14, (.iload_n 1, 15, 1, 0, .null, []), 0, 0),
  (15, (.iload_n 3, 16, 3, 0, .null, []), 0, 0),
  (16, (.ishr, 17, 0, 0, .null, []), 0, 0),
  (17, (.iconst 1, 18, 0, 0, .int 1, []), 0, 0),
  (18, (.iand, 19, 0, 0, .null, []), 0, 0),
  (19, (.ifCond .ne 42, 22, 61, 0, .null, []), 0, 0),
  (22, (.iconst 0, 23, 0, 0, .int 0, []), 0, 0),
  (23, (.istore 4, 25, 4, 0, .null, []), 0, 0),
  (25, (.iload 4, 27, 4, 0, .null, []), 0, 0),
  (27, (.iconst 3, 28, 0, 0, .int 3, []), 0, 0),
  (28, (.if_icmp .ge 30, 31, 58, 0, .null, []), 0, 0),
  (31, (.aload_n 0, 32, 0, 0, .null, []), 0, 0),
  (32, (.getfield 13, 35, 5, 1, .null, []), 4, 93),
  (35, (.bipush 6, 37, 0, 0, .int 6, []), 0, 0),
  (37, (.iconst 3, 38, 0, 0, .int 3, []), 0, 0),
  (38, (.iload_n 2, 39, 2, 0, .null, []), 0, 0),
  (39, (.imul, 40, 0, 0, .null, []), 0, 0),
  (40, (.iadd, 41, 0, 0, .null, []), 0, 0),
  (41, (.iload 4, 43, 4, 0, .null, []), 0, 0),
  (43, (.iadd, 44, 0, 0, .null, []), 0, 0),
  (44, (.aload_n 0, 45, 0, 0, .null, []), 0, 0),
  (45, (.iload_n 3, 46, 3, 0, .null, []), 0, 0),
  (46, (.iload 4, 48, 4, 0, .null, []), 0, 0),
  (48, (.invokevirtual 159, 51, 171, 2, .null, []), 5, 37),
  (51, (.iastore, 52, 0, 0, .null, []), 0, 0),
  (52, (.iinc 4 1, 55, 4, 0, .int 1, []), 0, 0),
  (55, (.goto (-30), 58, 25, 0, .null, []), 0, 0),
  (58, (.iinc 2 1, 61, 2, 0, .int 1, []), 0, 0),
  (61, (.iinc 3 1, 64, 3, 0, .int 1, []), 0, 0),
  (64, (.goto (-60), 67, 4, 0, .null, []), 0, 0),
  (67, (.aload_n 0, 68, 0, 0, .null, []), 0, 0),
  (68, (.getfield 13, 71, 5, 1, .null, []), 4, 93),
  (71, (.iconst 4, 72, 0, 0, .int 4, []), 0, 0),
  (72, (.iload_n 2, 73, 2, 0, .null, []), 0, 0),
  (73, (.iastore, 74, 0, 0, .null, []), 0, 0),
  (74, (.return_, 75, 0, 0, .null, []), 0, 0)]
/-- ThreadBankModel.areAlike(II)Z -/
def qc_178 : List qm_E := [
  (0, (.aload_n 0, 1, 0, 0, .null, []), 0, 0),
  (1, (.iload_n 1, 2, 1, 0, .null, []), 0, 0),
  (2, (.iconst 1, 3, 0, 0, .int 1, []), 0, 0),
  (3, (.invokevirtual 159, 6, 171, 2, .null, []), 5, 37),
  (6, (.aload_n 0, 7, 0, 0, .null, []), 0, 0),
  (7, (.iload_n 2, 8, 2, 0, .null, []), 0, 0),
  (8, (.iconst 1, 9, 0, 0, .int 1, []), 0, 0),
  (9, (.invokevirtual 159, 12, 171, 2, .null, []), 5, 37),
  (12, (.if_icmp .ne 22, 15, 34, 0, .null, []), 0, 0),
  (15, (.aload_n 0, 16, 0, 0, .null, []), 0, 0),
  (16, (.iload_n 1, 17, 1, 0, .null, []), 0, 0),
  (17, (.iconst 2, 18, 0, 0, .int 2, []), 0, 0),
  (18, (.invokevirtual 159, 21, 171, 2, .null, []), 5, 37),
  (21, (.aload_n 0, 22, 0, 0, .null, []), 0, 0),
  (22, (.iload_n 2, 23, 2, 0, .null, []), 0, 0),
  (23, (.iconst 2, 24, 0, 0, .int 2, []), 0, 0),
  (24, (.invokevirtual 159, 27, 171, 2, .null, []), 5, 37),
  (27, (.if_icmp .ne 7, 30, 34, 0, .null, []), 0, 0),
  (30, (.iconst 1, 31, 0, 0, .int 1, []), 0, 0),
  (31, (.goto 4, 34, 35, 0, .null, []), 0, 0),
  (34, (.iconst 0, 35, 0, 0, .int 0, []), 0, 0),
  (35, (.ireturn, 36, 0, 0, .null, []), 0, 0)]
/-- ThreadBankModel.isCopy(I)Z -/
def qc_179 : List qm_E := [
  (0, (.iconst 0, 1, 0, 0, .int 0, []), 0, 0),
  (1, (.istore_n 2, 2, 2, 0, .null, []), 0, 0),
  (2, (.iconst 0, 3, 0, 0, .int 0, []), 0, 0),
  (3, (.istore_n 3, 4, 3, 0, .null, []), 0, 0),
  (4, (.iload_n 3, 5, 3, 0, .null, []), 0, 0),
  (5, (.iload_n 1, 6, 1, 0, .null, []), 0, 0),
  (6, (.if_icmp .ge 41, 9, 47, 0, .null, []), 0, 0),
  (9, (.iload_n 2, 10, 2, 0, .null, []), 0, 0),
  (10, (.ifCond .ne 25, 13, 35, 0, .null, []), 0, 0),
  (13, (.aload_n 0, 14, 0, 0, .null, []), 0, 0),
  (14, (.iload_n 1, 15, 1, 0, .null, []), 0, 0),
  (15, (.iload_n 3, 16, 3, 0, .null, []), 0, 0),
  (16, (.invokevirtual 168, 19, 178, 2, .null, []), 5, 57),
  (19, (.ifCond .eq 20, 22, 39, 0, .null, []), 0, 0),
  (22, (.aload_n 0, 23, 0, 0, .null, []), 0, 0),
  (23, (.iload_n 3, 24, 3, 0, .null, []), 0, 0),
  (24, (.invokevirtual 162, 27, 172, 1, .null, []), 5, 61),
  (27, (.aload_n 0, 28, 0, 0, .null, []), 0, 0),
  (28, (.iload_n 1, 29, 1, 0, .null, []), 0, 0),
  (29, (.invokevirtual 162, 32, 172, 1, .null, []), 5, 61),
  (32, (.if_icmp .eq 7, 35, 39, 0, .null, []), 0, 0),
  (35, (.iconst 1, 36, 0, 0, .int 1, []), 0, 0),
  (36, (.goto 4, 39, 40, 0, .null, []), 0, 0),
  (39, (.iconst 0, 40, 0, 0, .int 0, []), 0, 0),
  (40, (.istore_n 2, 41, 2, 0, .null, []), 0, 0),
  (41, (.iinc 3 1, 44, 3, 0, .int 1, []), 0, 0),
  (44, (.goto (-40), 47, 4, 0, .null, []), 0, 0),
  (47, (.iload_n 2, 48, 2, 0, .null, []), 0, 0),
  (48, (.ireturn, 49, 0, 0, .null, []), 0, 0)]
/-- ThreadBankModel.findOwed(I)V -/
def qc_180 : List qm_E := [
  (0, (.iconst 0, 1, 0, 0, .int 0, []), 0, 0),
  (1, (.istore_n 2, 2, 2, 0, .null, []), 0, 0),
  (2, (.iload_n 2, 3, 2, 0, .null, []), 0, 0),
  (3, (.bipush 16, 5, 0, 0, .int 16, []), 0, 0),
  (5, (.if_icmp .ge 16, 8, 21, 0, .null, []), 0, 0),
  (8, (.aload_n 0, 9, 0, 0, .null, []), 0, 0),
  (9, (.getfield 26, 12, 5, 16, .null, []), 4, 108),
  (12, (.iload_n 2, 13, 2, 0, .null, []), 0, 0),
  (13, (.iconst 0, 14, 0, 0, .int 0, []), 0, 0),
  (14, (.iastore, 15, 0, 0, .null, []), 0, 0),
  (15, (.iinc 2 1, 18, 2, 0, .int 1, []), 0, 0),
  (18, (.goto (-16), 21, 2, 0, .null, []), 0, 0),
  (21, (.iconst 0, 22, 0, 0, .int 0, []), 0, 0),
  (22, (.istore_n 2, 23, 2, 0, .null, []), 0, 0),
  (23, (.iload_n 2, 24, 2, 0, .null, []), 0, 0),
  (24, (.aload_n 0, 25, 0, 0, .null, []), 0, 0),
  (25, (.getfield 13, 28, 5, 1, .null, []), 4, 93),
  (28, (.iconst 4, 29, 0, 0, .int 4, []), 0, 0),
  (29, (.iaload, 30, 0, 0, .null, []), 0, 0),
  (30, (.if_icmp .ge 82, 33, 112, 0, .null, []), 0, 0),
  (33, (.aload_n 0, 34, 0, 0, .null, []), 0, 0),
  (34, (.iload_n 2, 35, 2, 0, .null, []), 0, 0),
  (35, (.invokevirtual 172, 38, 179, 1, .null, []), 5, 53),
  (38, (.ifCond .ne 20, 41, 58, 0, .null, []), 0, 0),
  (41, (.aload_n 0, 42, 0, 0, .null, []), 0, 0),
  (42, (.iload_n 2, 43, 2, 0, .null, []), 0, 0),
  (43, (.iconst 2, 44, 0, 0, .int 2, []), 0, 0),
  (44, (.invokevirtual 159, 47, 171, 2, .null, []), 5, 37),
  (47, (.bipush 10, 49, 0, 0, .int 10, []), 0, 0),
  (49, (.irem, 50, 0, 0, .null, []), 0, 0),
  (50, (.iload_n 1, 51, 1, 0, .null, []), 0, 0),
  (51, (.if_icmp .gt 7, 54, 58, 0, .null, []), 0, 0),
  (54, (.iconst 1, 55, 0, 0, .int 1, []), 0, 0),
  (55, (.goto 4, 58, 59, 0, .null, []), 0, 0),
  (58, (.iconst 0, 59, 0, 0, .int 0, []), 0, 0),
  (59, (.istore_n 3, 60, 3, 0, .null, []), 0, 0),
  (60, (.aload_n 0, 61, 0, 0, .null, []), 0, 0),
  (61, (.getfield 26, 64, 5, 16, .null, []), 4, 108),
  (64, (.iconst 4, 65, 0, 0, .int 4, []), 0, 0),
  (65, (.aload_n 0, 66, 0, 0, .null, []), 0, 0),
  (66, (.iload_n 2, 67, 2, 0, .null, []), 0, 0),
  (67, (.iconst 1, 68, 0, 0, .int 1, []), 0, 0),
  (68, (.invokevirtual 159, 71, 171, 2, .null, []), 5, 37),
  (71, (.bipush 10, 73, 0, 0, .int 10, []), 0, 0),
  (73, (.idiv, 74, 0, 0, .null, []), 0, 0),
  (74, (.imul, 75, 0, 0, .null, []), 0, 0),
  (75, (.aload_n 0, 76, 0, 0, .null, []), 0, 0),
  (76, (.iload_n 2, 77, 2, 0, .null, []), 0, 0),
  (77, (.iconst 1, 78, 0, 0, .int 1, []), 0, 0),
  (78, (.invokevirtual 159, 81, 171, 2, .null, []), 5, 37),
  (81, (.bipush 10, 83, 0, 0, .int 10, []), 0, 0),
  (83, (.irem, 84, 0, 0, .null, []), 0, 0),
  (84, (.iadd, 85, 0, 0, .null, []), 0, 0),
  (85, (.dup2, 86, 0, 0, .null, []), 0, 0),
  (86, (.iaload, 87, 0, 0, .null, []), 0, 0),
  (87, (.iload_n 3, 88, 3, 0, .null, []), 0, 0),
  (88, (.ifCond .eq 15, 91, 103, 0, .null, []), 0, 0),
  (91, (.aload_n 0, 92, 0, 0, .null, []), 0, 0),
  (92, (.iload_n 2, 93, 2, 0, .null, []), 0, 0),
  (93, (.iconst 2, 94, 0, 0, .int 2, []), 0, 0),
  (94, (.invokevirtual 159, 97, 171, 2, .null, []), 5, 37),
  (97, (.bipush 10, 99, 0, 0, .int 10, []), 0, 0),
  (99, (.idiv, 100, 0, 0, .null, []), 0, 0),
  (100, (.goto 4, 103, 104, 0, .null, []), 0, 0),
  (103, (.iconst 0, 104, 0, 0, .int 0, []), 0, 0),
  (104, (.iadd, 105, 0, 0, .null, []), 0, 0),
  (105, (.iastore, 106, 0, 0, .null, []), 0, 0),
  (106, (.iinc 2 1, 109, 2, 0, .int 1, []), 0, 0),
  (109, (.goto (-86), 112, 23, 0, .null, []), 0, 0),
  (112, (.return_, 113, 0, 0, .null, []), 0, 0)]
/-- ThreadBankModel.owedBy(I)I -/
def qc_181 : List qm_E := [
  (0, (.aload_n 0, 1, 0, 0, .null, []), 0, 0),
  (1, (.getfield 26, 4, 5, 16, .null, []), 4, 108),
  (4, (.iconst 4, 5, 0, 0, .int 4, []), 0, 0),
  (5, (.iload_n 1, 6, 1, 0, .null, []), 0, 0),
  (6, (.bipush 10, 8, 0, 0, .int 10, []), 0, 0),
  (8, (.idiv, 9, 0, 0, .null, []), 0, 0),
  (9, (.imul, 10, 0, 0, .null, []), 0, 0),
  (10, (.iload_n 1, 11, 1, 0, .null, []), 0, 0),
  (11, (.bipush 10, 13, 0, 0, .int 10, []), 0, 0),
  (13, (.irem, 14, 0, 0, .null, []), 0, 0),
  (14, (.iadd, 15, 0, 0, .null, []), 0, 0),
  (15, (.iaload, 16, 0, 0, .null, []), 0, 0),
  (16, (.ireturn, 17, 0, 0, .null, []), 0, 0)]
/-- ThreadBankModel.netOf(I)I -/
def qc_182 : List qm_E := [
  (0, (.iconst 0, 1, 0, 0, .int 0, []), 0, 0),
  (1, (.istore_n 2, 2, 2, 0, .null, []), 0, 0),
  (2, (.iconst 0, 3, 0, 0, .int 0, []), 0, 0),
  (3, (.istore_n 3, 4, 3, 0, .null, []), 0, 0),
  (4, (.iload_n 3, 5, 3, 0, .null, []), 0, 0),
  (5, (.iconst 4, 6, 0, 0, .int 4, []), 0, 0),
  (6, (.if_icmp .ge 33, 9, 39, 0, .null, []), 0, 0),
  (9, (.iload_n 2, 10, 2, 0, .null, []), 0, 0),
  (10, (.aload_n 0, 11, 0, 0, .null, []), 0, 0),
  (11, (.getfield 26, 14, 5, 16, .null, []), 4, 108),
  (14, (.iconst 4, 15, 0, 0, .int 4, []), 0, 0),
  (15, (.iload_n 3, 16, 3, 0, .null, []), 0, 0),
  (16, (.imul, 17, 0, 0, .null, []), 0, 0),
  (17, (.iload_n 1, 18, 1, 0, .null, []), 0, 0),
  (18, (.iadd, 19, 0, 0, .null, []), 0, 0),
  (19, (.iaload, 20, 0, 0, .null, []), 0, 0),
  (20, (.aload_n 0, 21, 0, 0, .null, []), 0, 0),
  (21, (.getfield 26, 24, 5, 16, .null, []), 4, 108),
  (24, (.iconst 4, 25, 0, 0, .int 4, []), 0, 0),
  (25, (.iload_n 1, 26, 1, 0, .null, []), 0, 0),
  (26, (.imul, 27, 0, 0, .null, []), 0, 0),
  (27, (.iload_n 3, 28, 3, 0, .null, []), 0, 0),
  (28, (.iadd, 29, 0, 0, .null, []), 0, 0),
  (29, (.iaload, 30, 0, 0, .null, []), 0, 0),
  (30, (.isub, 31, 0, 0, .null, []), 0, 0),
  (31, (.iadd, 32, 0, 0, .null, []), 0, 0),
  (32, (.istore_n 2, 33, 2, 0, .null, []), 0, 0),
  (33, (.iinc 3 1, 36, 3, 0, .int 1, []), 0, 0),
  (36, (.goto (-32), 39, 4, 0, .null, []), 0, 0),
  (39, (.iload_n 2, 40, 2, 0, .null, []), 0, 0),
  (40, (.ireturn, 41, 0, 0, .null, []), 0, 0)]
/-- ThreadBankModel.allOwed()I -/
def qc_183 : List qm_E := [
  (0, (.iconst 0, 1, 0, 0, .int 0, []), 0, 0),
  (1, (.istore_n 1, 2, 1, 0, .null, []), 0, 0),
  (2, (.iconst 0, 3, 0, 0, .int 0, []), 0, 0),
  (3, (.istore_n 2, 4, 2, 0, .null, []), 0, 0),
  (4, (.iload_n 2, 5, 2, 0, .null, []), 0, 0),
  (5, (.bipush 16, 7, 0, 0, .int 16, []), 0, 0),
  (7, (.if_icmp .ge 18, 10, 25, 0, .null, []), 0, 0),
  (10, (.iload_n 1, 11, 1, 0, .null, []), 0, 0),
  (11, (.aload_n 0, 12, 0, 0, .null, []), 0, 0),
  (12, (.getfield 26, 15, 5, 16, .null, []), 4, 108),
  (15, (.iload_n 2, 16, 2, 0, .null, []), 0, 0),
  (16, (.iaload, 17, 0, 0, .null, []), 0, 0),
  (17, (.iadd, 18, 0, 0, .null, []), 0, 0),
  (18, (.istore_n 1, 19, 1, 0, .null, []), 0, 0),
  (19, (.iinc 2 1, 22, 2, 0, .int 1, []), 0, 0),
  (22, (.goto (-18), 25, 4, 0, .null, []), 0, 0),
  (25, (.iload_n 1, 26, 1, 0, .null, []), 0, 0),
  (26, (.ireturn, 27, 0, 0, .null, []), 0, 0)]
/-- ThreadBankModel.rule(I)I -/
def qc_184 : List qm_E := [
  (0, (.aload_n 0, 1, 0, 0, .null, []), 0, 0),
  (1, (.invokevirtual 175, 4, 169, 0, .null, []), 5, 21),
  (4, (.iconst 0, 5, 0, 0, .int 0, []), 0, 0),
  (5, (.istore_n 2, 6, 2, 0, .null, []), 0, 0),
  (6, (.iconst 0, 7, 0, 0, .int 0, []), 0, 0),
  (7, (.istore_n 3, 8, 3, 0, .null, []), 0, 0),
  (8, (.iconst 0, 9, 0, 0, .int 0, []), 0, 0),
  (9, (.istore 4, 11, 4, 0, .null, []), 0, 0),
  (11, (.iload 4, 13, 4, 0, .null, []), 0, 0),
  (13, (.aload_n 0, 14, 0, 0, .null, []), 0, 0),
  (14, (.getfield 61, 17, 5, 3, .null, []), 4, 95),
  (17, (.if_icmp .ge 59, 20, 76, 0, .null, []), 0, 0),
  (20, (.iload_n 2, 21, 2, 0, .null, []), 0, 0),
  (21, (.aload_n 0, 22, 0, 0, .null, []), 0, 0),
  (22, (.iload 4, 24, 4, 0, .null, []), 0, 0),
  (24, (.invokevirtual 178, 27, 176, 1, .null, []), 5, 25),
  (27, (.iadd, 28, 0, 0, .null, []), 0, 0),
  (28, (.istore_n 2, 29, 2, 0, .null, []), 0, 0),
  (29, (.iconst 0, 30, 0, 0, .int 0, []), 0, 0),
  (30, (.istore 5, 32, 5, 0, .null, []), 0, 0),
  (32, (.iload 5, 34, 5, 0, .null, []), 0, 0),
  (34, (.iconst 5, 35, 0, 0, .int 5, []), 0, 0),
  (35, (.if_icmp .ge 35, 38, 70, 0, .null, []), 0, 0),
  (38, (.iload_n 3, 39, 3, 0, .null, []), 0, 0),
  (39, (.aload_n 0, 40, 0, 0, .null, []), 0, 0),
  (40, (.bipush 10, 42, 0, 0, .int 10, []), 0, 0),
  (42, (.iload 4, 44, 4, 0, .null, []), 0, 0),
  (44, (.imul, 45, 0, 0, .null, []), 0, 0),
  (45, (.iload 5, 47, 5, 0, .null, []), 0, 0),
  (47, (.iadd, 48, 0, 0, .null, []), 0, 0),
  (48, (.invokevirtual 181, 51, 174, 1, .null, []), 5, 33),
  (51, (.ifCond .le 7, 54, 58, 0, .null, []), 0, 0),
  (54, (.iconst 1, 55, 0, 0, .int 1, []), 0, 0),
  (55, (.goto 4, 58, 59, 0, .null, []), 0, 0),
  (58, (.iconst 0, 59, 0, 0, .int 0, []), 0, 0),
  (59, (.invokestatic 141, 62, 142, 1, .null, []), 5, 7),
  (62, (.iadd, 63, 0, 0, .null, []), 0, 0),
  (63, (.istore_n 3, 64, 3, 0, .null, []), 0, 0),
  (64, (.iinc 5 1, 67, 5, 0, .int 1, []), 0, 0),
  (67, (.goto (-35), 70, 32, 0, .null, []), 0, 0),
  (70, (.iinc 4 1, 73, 4, 0, .int 1, []), 0, 0),
  (73, (.goto (-62), 76, 11, 0, .null, []), 0, 0),
  (76, (.iload_n 1, 77, 1, 0, .null, []), 0, 0),
  (77, (.tableswitch 58 0 4 #[35, 40, 47, 54, 56], 112, 135, 0, .null, [(0, 112), (1, 117), (2, 124), (3, 131), (4, 133)]), 0, 0),
  (112, (.aload_n 0, 113, 0, 0, .null, []), 0, 0),
  (113, (.getfield 61, 116, 5, 3, .null, []), 4, 95),
  (116, (.ireturn, 117, 0, 0, .null, []), 0, 0),
  (117, (.aload_n 0, 118, 0, 0, .null, []), 0, 0),
  (118, (.getfield 7, 121, 5, 0, .null, []), 4, 92),
  (121, (.iconst 4, 122, 0, 0, .int 4, []), 0, 0),
  (122, (.iaload, 123, 0, 0, .null, []), 0, 0),
  (123, (.ireturn, 124, 0, 0, .null, []), 0, 0),
  (124, (.aload_n 0, 125, 0, 0, .null, []), 0, 0),
  (125, (.getfield 7, 128, 5, 0, .null, []), 4, 92),
  (128, (.iconst 5, 129, 0, 0, .int 5, []), 0, 0),
  (129, (.iaload, 130, 0, 0, .null, []), 0, 0),
  (130, (.ireturn, 131, 0, 0, .null, []), 0, 0),
  (131, (.iload_n 2, 132, 2, 0, .null, []), 0, 0),
  (132, (.ireturn, 133, 0, 0, .null, []), 0, 0),
  (133, (.iload_n 3, 134, 3, 0, .null, []), 0, 0),
  (134, (.ireturn, 135, 0, 0, .null, []), 0, 0),
  (135, (.iconst (-1), 136, 0, 0, .int (-1 : Int32), []), 0, 0),
  (136, (.ireturn, 137, 0, 0, .null, []), 0, 0)]
/-- ThreadBankModel.clerk(II)I -/
def qc_185 : List qm_E := [
  (0, (.aload_n 0, 1, 0, 0, .null, []), 0, 0),
  (1, (.iload_n 1, 2, 1, 0, .null, []), 0, 0),
  (2, (.invokevirtual 155, 5, 164, 1, .null, []), 5, 45),
  (5, (.ifCond .ne 5, 8, 10, 0, .null, []), 0, 0),
  (8, (.iconst (-1), 9, 0, 0, .int (-1 : Int32), []), 0, 0),
  (9, (.ireturn, 10, 0, 0, .null, []), 0, 0),
  (10, (.aload_n 0, 11, 0, 0, .null, []), 0, 0),
  (11, (.invokevirtual 175, 14, 169, 0, .null, []), 5, 21),
  (14, (.aload_n 0, 15, 0, 0, .null, []), 0, 0),
  (15, (.bipush 9, 17, 0, 0, .int 9, []), 0, 0),
  (17, (.invokevirtual 184, 20, 180, 1, .null, []), 5, 49),
  (20, (.iload_n 2, 21, 2, 0, .null, []), 0, 0),
  (21, (.tableswitch 62 0 3 #[31, 40, 46, 52], 52, 83, 0, .null, [(0, 52), (1, 61), (2, 67), (3, 73)]), 0, 0),
  (52, (.aload_n 0, 53, 0, 0, .null, []), 0, 0),
  (53, (.getfield 7, 56, 5, 0, .null, []), 4, 92),
  (56, (.iconst 0, 57, 0, 0, .int 0, []), 0, 0),
  (57, (.iload_n 1, 58, 1, 0, .null, []), 0, 0),
  (58, (.iadd, 59, 0, 0, .null, []), 0, 0),
  (59, (.iaload, 60, 0, 0, .null, []), 0, 0),
  (60, (.ireturn, 61, 0, 0, .null, []), 0, 0),
  (61, (.aload_n 0, 62, 0, 0, .null, []), 0, 0),
  (62, (.iload_n 1, 63, 1, 0, .null, []), 0, 0),
  (63, (.invokevirtual 187, 66, 175, 1, .null, []), 5, 65),
  (66, (.ireturn, 67, 0, 0, .null, []), 0, 0),
  (67, (.aload_n 0, 68, 0, 0, .null, []), 0, 0),
  (68, (.iload_n 1, 69, 1, 0, .null, []), 0, 0),
  (69, (.invokevirtual 178, 72, 176, 1, .null, []), 5, 25),
  (72, (.ireturn, 73, 0, 0, .null, []), 0, 0),
  (73, (.sipush 1000, 76, 0, 0, .int 1000, []), 0, 0),
  (76, (.aload_n 0, 77, 0, 0, .null, []), 0, 0),
  (77, (.iload_n 1, 78, 1, 0, .null, []), 0, 0),
  (78, (.invokevirtual 190, 81, 182, 1, .null, []), 5, 69),
  (81, (.iadd, 82, 0, 0, .null, []), 0, 0),
  (82, (.ireturn, 83, 0, 0, .null, []), 0, 0),
  (83, (.iconst (-1), 84, 0, 0, .int (-1 : Int32), []), 0, 0),
  (84, (.ireturn, 85, 0, 0, .null, []), 0, 0)]
/-- ThreadBankModel.finger(II)I -/
def qc_186 : List qm_E := [
  (0, (.aload_n 0, 1, 0, 0, .null, []), 0, 0),
  (1, (.iload_n 1, 2, 1, 0, .null, []), 0, 0),
  (2, (.invokevirtual 193, 5, 165, 1, .null, []), 5, 77),
  (5, (.ifCond .eq 10, 8, 15, 0, .null, []), 0, 0),
  (8, (.iload_n 2, 9, 2, 0, .null, []), 0, 0),
  (9, (.invokestatic 196, 12, 168, 1, .null, []), 5, 81),
  (12, (.ifCond .ne 5, 15, 17, 0, .null, []), 0, 0),
  (15, (.iconst (-1), 16, 0, 0, .int (-1 : Int32), []), 0, 0),
  (16, (.ireturn, 17, 0, 0, .null, []), 0, 0),
  (17, (.aload_n 0, 18, 0, 0, .null, []), 0, 0),
  (18, (.invokevirtual 175, 21, 169, 0, .null, []), 5, 21),
  (21, (.iload_n 2, 22, 2, 0, .null, []), 0, 0),
  (22, (.ifCond .ne 11, 25, 33, 0, .null, []), 0, 0),
  (25, (.aload_n 0, 26, 0, 0, .null, []), 0, 0),
  (26, (.iload_n 1, 27, 1, 0, .null, []), 0, 0),
  (27, (.invokevirtual 165, 30, 173, 1, .null, []), 5, 29),
  (30, (.goto 8, 33, 38, 0, .null, []), 0, 0),
  (33, (.aload_n 0, 34, 0, 0, .null, []), 0, 0),
  (34, (.iload_n 1, 35, 1, 0, .null, []), 0, 0),
  (35, (.invokevirtual 181, 38, 174, 1, .null, []), 5, 33),
  (38, (.ireturn, 39, 0, 0, .null, []), 0, 0)]
/-- ThreadBankModel.thread(II)I -/
def qc_187 : List qm_E := [
  (0, (.aload_n 0, 1, 0, 0, .null, []), 0, 0),
  (1, (.iload_n 1, 2, 1, 0, .null, []), 0, 0),
  (2, (.invokevirtual 199, 5, 167, 1, .null, []), 5, 88),
  (5, (.ifCond .eq 15, 8, 20, 0, .null, []), 0, 0),
  (8, (.iload_n 2, 9, 2, 0, .null, []), 0, 0),
  (9, (.i2l, 10, 0, 0, .null, []), 0, 0),
  (10, (.lconst 0, 11, 0, 0, .long 0, []), 0, 0),
  (11, (.ldc2_w 202, 14, 0, 0, .long 3, []), 5, 92),
  (14, (.invokestatic 66, 17, 141, 3, .null, []), 4, 176),
  (17, (.ifCond .ne 5, 20, 22, 0, .null, []), 0, 0),
  (20, (.iconst (-1), 21, 0, 0, .int (-1 : Int32), []), 0, 0),
  (21, (.ireturn, 22, 0, 0, .null, []), 0, 0),
  (22, (.aload_n 0, 23, 0, 0, .null, []), 0, 0),
  (23, (.invokevirtual 175, 26, 169, 0, .null, []), 5, 21),
  (26, (.iload_n 2, 27, 2, 0, .null, []), 0, 0),
  (27, (.iconst 3, 28, 0, 0, .int 3, []), 0, 0),
  (28, (.if_icmp .ge 12, 31, 40, 0, .null, []), 0, 0),
  (31, (.aload_n 0, 32, 0, 0, .null, []), 0, 0),
  (32, (.iload_n 1, 33, 1, 0, .null, []), 0, 0),
  (33, (.iload_n 2, 34, 2, 0, .null, []), 0, 0),
  (34, (.invokevirtual 159, 37, 171, 2, .null, []), 5, 37),
  (37, (.goto 11, 40, 48, 0, .null, []), 0, 0),
  (40, (.aload_n 0, 41, 0, 0, .null, []), 0, 0),
  (41, (.iload_n 1, 42, 1, 0, .null, []), 0, 0),
  (42, (.invokevirtual 172, 45, 179, 1, .null, []), 5, 53),
  (45, (.invokestatic 141, 48, 142, 1, .null, []), 5, 7),
  (48, (.ireturn, 49, 0, 0, .null, []), 0, 0)]
/-- ThreadBankModel.becomes(II)I -/
def qc_188 : List qm_E := [
  (0, (.aload_n 0, 1, 0, 0, .null, []), 0, 0),
  (1, (.getfield 7, 4, 5, 0, .null, []), 4, 92),
  (4, (.iload_n 1, 5, 1, 0, .null, []), 0, 0),
  (5, (.iaload, 6, 0, 0, .null, []), 0, 0),
  (6, (.istore_n 3, 7, 3, 0, .null, []), 0, 0),
  (7, (.aload_n 0, 8, 0, 0, .null, []), 0, 0),
  (8, (.getfield 7, 11, 5, 0, .null, []), 4, 92),
  (11, (.iload_n 1, 12, 1, 0, .null, []), 0, 0),
  (12, (.iload_n 2, 13, 2, 0, .null, []), 0, 0),
  (13, (.iastore, 14, 0, 0, .null, []), 0, 0),
  (14, (.iload_n 3, 15, 3, 0, .null, []), 0, 0),
  (15, (.ireturn, 16, 0, 0, .null, []), 0, 0)]
/-- ThreadBankModel.tie(III)I -/
def qc_189 : List qm_E := [
  (0, (.aload_n 0, 1, 0, 0, .null, []), 0, 0),
  (1, (.iload_n 1, 2, 1, 0, .null, []), 0, 0),
  (2, (.invokevirtual 193, 5, 165, 1, .null, []), 5, 77),
  (5, (.ifCond .eq 25, 8, 30, 0, .null, []), 0, 0),
  (8, (.aload_n 0, 9, 0, 0, .null, []), 0, 0),
  (9, (.iload_n 2, 10, 2, 0, .null, []), 0, 0),
  (10, (.invokevirtual 204, 13, 166, 1, .null, []), 5, 97),
  (13, (.ifCond .eq 17, 16, 30, 0, .null, []), 0, 0),
  (16, (.iload_n 3, 17, 3, 0, .null, []), 0, 0),
  (17, (.i2l, 18, 0, 0, .null, []), 0, 0),
  (18, (.ldc2_w 207, 21, 0, 0, .long 10, []), 5, 101),
  (21, (.ldc2_w 209, 24, 0, 0, .long 99, []), 5, 102),
  (24, (.invokestatic 66, 27, 141, 3, .null, []), 4, 176),
  (27, (.ifCond .ne 5, 30, 32, 0, .null, []), 0, 0),
  (30, (.iconst (-1), 31, 0, 0, .int (-1 : Int32), []), 0, 0),
  (31, (.ireturn, 32, 0, 0, .null, []), 0, 0),
  (32, (.aload_n 0, 33, 0, 0, .null, []), 0, 0),
  (33, (.invokevirtual 175, 36, 169, 0, .null, []), 5, 21),
  (36, (.aload_n 0, 37, 0, 0, .null, []), 0, 0),
  (37, (.getfield 7, 40, 5, 0, .null, []), 4, 92),
  (40, (.iconst 4, 41, 0, 0, .int 4, []), 0, 0),
  (41, (.iaload, 42, 0, 0, .null, []), 0, 0),
  (42, (.bipush 10, 44, 0, 0, .int 10, []), 0, 0),
  (44, (.if_icmp .eq 16, 47, 60, 0, .null, []), 0, 0),
  (47, (.aload_n 0, 48, 0, 0, .null, []), 0, 0),
  (48, (.iload_n 1, 49, 1, 0, .null, []), 0, 0),
  (49, (.invokevirtual 181, 52, 174, 1, .null, []), 5, 33),
  (52, (.aload_n 0, 53, 0, 0, .null, []), 0, 0),
  (53, (.iload_n 1, 54, 1, 0, .null, []), 0, 0),
  (54, (.invokevirtual 165, 57, 173, 1, .null, []), 5, 29),
  (57, (.if_icmp .lt 6, 60, 63, 0, .null, []), 0, 0),
  (60, (.bipush (-3), 62, 0, 0, .int (-3 : Int32), []), 0, 0),
  (62, (.ireturn, 63, 0, 0, .null, []), 0, 0),
  (63, (.bipush 6, 65, 0, 0, .int 6, []), 0, 0),
  (65, (.iconst 3, 66, 0, 0, .int 3, []), 0, 0),
  (66, (.aload_n 0, 67, 0, 0, .null, []), 0, 0),
  (67, (.getfield 7, 70, 5, 0, .null, []), 4, 92),
  (70, (.iconst 4, 71, 0, 0, .int 4, []), 0, 0),
  (71, (.iaload, 72, 0, 0, .null, []), 0, 0),
  (72, (.imul, 73, 0, 0, .null, []), 0, 0),
  (73, (.iadd, 74, 0, 0, .null, []), 0, 0),
  (74, (.istore 4, 76, 4, 0, .null, []), 0, 0),
  (76, (.aload_n 0, 77, 0, 0, .null, []), 0, 0),
  (77, (.getfield 7, 80, 5, 0, .null, []), 4, 92),
  (80, (.iload 4, 82, 4, 0, .null, []), 0, 0),
  (82, (.iconst 0, 83, 0, 0, .int 0, []), 0, 0),
  (83, (.iadd, 84, 0, 0, .null, []), 0, 0),
  (84, (.iload_n 1, 85, 1, 0, .null, []), 0, 0),
  (85, (.iastore, 86, 0, 0, .null, []), 0, 0),
  (86, (.aload_n 0, 87, 0, 0, .null, []), 0, 0),
  (87, (.getfield 7, 90, 5, 0, .null, []), 4, 92),
  (90, (.iload 4, 92, 4, 0, .null, []), 0, 0),
  (92, (.iconst 1, 93, 0, 0, .int 1, []), 0, 0),
  (93, (.iadd, 94, 0, 0, .null, []), 0, 0),
  (94, (.iload_n 2, 95, 2, 0, .null, []), 0, 0),
  (95, (.iastore, 96, 0, 0, .null, []), 0, 0),
  (96, (.aload_n 0, 97, 0, 0, .null, []), 0, 0),
  (97, (.getfield 7, 100, 5, 0, .null, []), 4, 92),
  (100, (.iload 4, 102, 4, 0, .null, []), 0, 0),
  (102, (.iconst 2, 103, 0, 0, .int 2, []), 0, 0),
  (103, (.iadd, 104, 0, 0, .null, []), 0, 0),
  (104, (.iload_n 3, 105, 3, 0, .null, []), 0, 0),
  (105, (.iastore, 106, 0, 0, .null, []), 0, 0),
  (106, (.aload_n 0, 107, 0, 0, .null, []), 0, 0),
  (107, (.iconst 4, 108, 0, 0, .int 4, []), 0, 0),
  (108, (.aload_n 0, 109, 0, 0, .null, []), 0, 0),
  (109, (.getfield 7, 112, 5, 0, .null, []), 4, 92),
  (112, (.iconst 4, 113, 0, 0, .int 4, []), 0, 0),
  (113, (.iaload, 114, 0, 0, .null, []), 0, 0),
  (114, (.iconst 1, 115, 0, 0, .int 1, []), 0, 0),
  (115, (.iadd, 116, 0, 0, .null, []), 0, 0),
  (116, (.invokevirtual 211, 119, 188, 2, .null, []), 5, 103),
  (119, (.ireturn, 120, 0, 0, .null, []), 0, 0)]
/-- ThreadBankModel.cut(I)I -/
def qc_190 : List qm_E := [
  (0, (.aload_n 0, 1, 0, 0, .null, []), 0, 0),
  (1, (.iload_n 1, 2, 1, 0, .null, []), 0, 0),
  (2, (.invokevirtual 199, 5, 167, 1, .null, []), 5, 88),
  (5, (.ifCond .ne 5, 8, 10, 0, .null, []), 0, 0),
  (8, (.iconst (-1), 9, 0, 0, .int (-1 : Int32), []), 0, 0),
  (9, (.ireturn, 10, 0, 0, .null, []), 0, 0),
  (10, (.aload_n 0, 11, 0, 0, .null, []), 0, 0),
  (11, (.invokevirtual 175, 14, 169, 0, .null, []), 5, 21),
  (14, (.aload_n 0, 15, 0, 0, .null, []), 0, 0),
  (15, (.iconst 1, 16, 0, 0, .int 1, []), 0, 0),
  (16, (.iload_n 1, 17, 1, 0, .null, []), 0, 0),
  (17, (.ishl, 18, 0, 0, .null, []), 0, 0),
  (18, (.invokevirtual 214, 21, 177, 1, .null, []), 5, 111),
  (21, (.aload_n 0, 22, 0, 0, .null, []), 0, 0),
  (22, (.invokevirtual 217, 25, 170, 0, .null, []), 5, 115),
  (25, (.aload_n 0, 26, 0, 0, .null, []), 0, 0),
  (26, (.getfield 7, 29, 5, 0, .null, []), 4, 92),
  (29, (.iconst 4, 30, 0, 0, .int 4, []), 0, 0),
  (30, (.iaload, 31, 0, 0, .null, []), 0, 0),
  (31, (.ireturn, 32, 0, 0, .null, []), 0, 0)]
/-- ThreadBankModel.move(II)I -/
def qc_191 : List qm_E := [
  (0, (.aload_n 0, 1, 0, 0, .null, []), 0, 0),
  (1, (.iload_n 1, 2, 1, 0, .null, []), 0, 0),
  (2, (.invokevirtual 199, 5, 167, 1, .null, []), 5, 88),
  (5, (.ifCond .eq 11, 8, 16, 0, .null, []), 0, 0),
  (8, (.aload_n 0, 9, 0, 0, .null, []), 0, 0),
  (9, (.iload_n 2, 10, 2, 0, .null, []), 0, 0),
  (10, (.invokevirtual 193, 13, 165, 1, .null, []), 5, 77),
  (13, (.ifCond .ne 5, 16, 18, 0, .null, []), 0, 0),
  (16, (.iconst (-1), 17, 0, 0, .int (-1 : Int32), []), 0, 0),
  (17, (.ireturn, 18, 0, 0, .null, []), 0, 0),
  (18, (.aload_n 0, 19, 0, 0, .null, []), 0, 0),
  (19, (.invokevirtual 175, 22, 169, 0, .null, []), 5, 21),
  (22, (.aload_n 0, 23, 0, 0, .null, []), 0, 0),
  (23, (.iload_n 1, 24, 1, 0, .null, []), 0, 0),
  (24, (.iconst 0, 25, 0, 0, .int 0, []), 0, 0),
  (25, (.invokevirtual 159, 28, 171, 2, .null, []), 5, 37),
  (28, (.iload_n 2, 29, 2, 0, .null, []), 0, 0),
  (29, (.if_icmp .ne 6, 32, 35, 0, .null, []), 0, 0),
  (32, (.bipush (-2), 34, 0, 0, .int (-2 : Int32), []), 0, 0),
  (34, (.ireturn, 35, 0, 0, .null, []), 0, 0),
  (35, (.aload_n 0, 36, 0, 0, .null, []), 0, 0),
  (36, (.iload_n 2, 37, 2, 0, .null, []), 0, 0),
  (37, (.invokevirtual 181, 40, 174, 1, .null, []), 5, 33),
  (40, (.aload_n 0, 41, 0, 0, .null, []), 0, 0),
  (41, (.iload_n 2, 42, 2, 0, .null, []), 0, 0),
  (42, (.invokevirtual 165, 45, 173, 1, .null, []), 5, 29),
  (45, (.if_icmp .lt 8, 48, 53, 0, .null, []), 0, 0),
  (48, (.bipush (-3), 50, 0, 0, .int (-3 : Int32), []), 0, 0),
  (50, (.goto 16, 53, 66, 0, .null, []), 0, 0),
  (53, (.aload_n 0, 54, 0, 0, .null, []), 0, 0),
  (54, (.bipush 6, 56, 0, 0, .int 6, []), 0, 0),
  (56, (.iconst 3, 57, 0, 0, .int 3, []), 0, 0),
  (57, (.iload_n 1, 58, 1, 0, .null, []), 0, 0),
  (58, (.imul, 59, 0, 0, .null, []), 0, 0),
  (59, (.iadd, 60, 0, 0, .null, []), 0, 0),
  (60, (.iconst 0, 61, 0, 0, .int 0, []), 0, 0),
  (61, (.iadd, 62, 0, 0, .null, []), 0, 0),
  (62, (.iload_n 2, 63, 2, 0, .null, []), 0, 0),
  (63, (.invokevirtual 211, 66, 188, 2, .null, []), 5, 103),
  (66, (.ireturn, 67, 0, 0, .null, []), 0, 0)]
/-- ThreadBankModel.onHand(I)I -/
def qc_192 : List qm_E := [
  (0, (.iconst 0, 1, 0, 0, .int 0, []), 0, 0),
  (1, (.istore_n 2, 2, 2, 0, .null, []), 0, 0),
  (2, (.iconst 0, 3, 0, 0, .int 0, []), 0, 0),
  (3, (.istore_n 3, 4, 3, 0, .null, []), 0, 0),
  (4, (.iload_n 3, 5, 3, 0, .null, []), 0, 0),
  (5, (.aload_n 0, 6, 0, 0, .null, []), 0, 0),
  (6, (.getfield 13, 9, 5, 1, .null, []), 4, 93),
  (9, (.iconst 4, 10, 0, 0, .int 4, []), 0, 0),
  (10, (.iaload, 11, 0, 0, .null, []), 0, 0),
  (11, (.if_icmp .ge 31, 14, 42, 0, .null, []), 0, 0),
  (14, (.iload_n 2, 15, 2, 0, .null, []), 0, 0),
  (15, (.aload_n 0, 16, 0, 0, .null, []), 0, 0),
  (16, (.iload_n 3, 17, 3, 0, .null, []), 0, 0),
  (17, (.invokevirtual 162, 20, 172, 1, .null, []), 5, 61),
  (20, (.iload_n 1, 21, 1, 0, .null, []), 0, 0),
  (21, (.if_icmp .ne 7, 24, 28, 0, .null, []), 0, 0),
  (24, (.iconst 1, 25, 0, 0, .int 1, []), 0, 0),
  (25, (.goto 4, 28, 29, 0, .null, []), 0, 0),
  (28, (.iconst 0, 29, 0, 0, .int 0, []), 0, 0),
  (29, (.invokestatic 141, 32, 142, 1, .null, []), 5, 7),
  (32, (.iload_n 3, 33, 3, 0, .null, []), 0, 0),
  (33, (.ishl, 34, 0, 0, .null, []), 0, 0),
  (34, (.ior, 35, 0, 0, .null, []), 0, 0),
  (35, (.istore_n 2, 36, 2, 0, .null, []), 0, 0),
  (36, (.iinc 3 1, 39, 3, 0, .int 1, []), 0, 0),
  (39, (.goto (-35), 42, 4, 0, .null, []), 0, 0),
  (42, (.iload_n 2, 43, 2, 0, .null, []), 0, 0),
  (43, (.ireturn, 44, 0, 0, .null, []), 0, 0)]
/-- ThreadBankModel.lose(I)I -/
def qc_193 : List qm_E := [
  (0, (.aload_n 0, 1, 0, 0, .null, []), 0, 0),
  (1, (.iload_n 1, 2, 1, 0, .null, []), 0, 0),
  (2, (.invokevirtual 155, 5, 164, 1, .null, []), 5, 45),
  (5, (.ifCond .ne 5, 8, 10, 0, .null, []), 0, 0),
  (8, (.iconst (-1), 9, 0, 0, .int (-1 : Int32), []), 0, 0),
  (9, (.ireturn, 10, 0, 0, .null, []), 0, 0),
  (10, (.aload_n 0, 11, 0, 0, .null, []), 0, 0),
  (11, (.invokevirtual 175, 14, 169, 0, .null, []), 5, 21),
  (14, (.aload_n 0, 15, 0, 0, .null, []), 0, 0),
  (15, (.getfield 13, 18, 5, 1, .null, []), 4, 93),
  (18, (.iconst 4, 19, 0, 0, .int 4, []), 0, 0),
  (19, (.iaload, 20, 0, 0, .null, []), 0, 0),
  (20, (.istore_n 2, 21, 2, 0, .null, []), 0, 0),
  (21, (.aload_n 0, 22, 0, 0, .null, []), 0, 0),
  (22, (.aload_n 0, 23, 0, 0, .null, []), 0, 0),
  (23, (.iload_n 1, 24, 1, 0, .null, []), 0, 0),
  (24, (.invokevirtual 220, 27, 192, 1, .null, []), 5, 127),
  (27, (.invokevirtual 214, 30, 177, 1, .null, []), 5, 111),
  (30, (.aload_n 0, 31, 0, 0, .null, []), 0, 0),
  (31, (.invokevirtual 217, 34, 170, 0, .null, []), 5, 115),
  (34, (.iload_n 2, 35, 2, 0, .null, []), 0, 0),
  (35, (.aload_n 0, 36, 0, 0, .null, []), 0, 0),
  (36, (.getfield 7, 39, 5, 0, .null, []), 4, 92),
  (39, (.iconst 4, 40, 0, 0, .int 4, []), 0, 0),
  (40, (.iaload, 41, 0, 0, .null, []), 0, 0),
  (41, (.isub, 42, 0, 0, .null, []), 0, 0),
  (42, (.ireturn, 43, 0, 0, .null, []), 0, 0)]
/-- ThreadBankModel.teach(II)I -/
def qc_194 : List qm_E := [
  (0, (.aload_n 0, 1, 0, 0, .null, []), 0, 0),
  (1, (.iload_n 1, 2, 1, 0, .null, []), 0, 0),
  (2, (.invokevirtual 155, 5, 164, 1, .null, []), 5, 45),
  (5, (.ifCond .eq 15, 8, 20, 0, .null, []), 0, 0),
  (8, (.iload_n 2, 9, 2, 0, .null, []), 0, 0),
  (9, (.i2l, 10, 0, 0, .null, []), 0, 0),
  (10, (.lconst 0, 11, 0, 0, .long 0, []), 0, 0),
  (11, (.ldc2_w 202, 14, 0, 0, .long 3, []), 5, 92),
  (14, (.invokestatic 66, 17, 141, 3, .null, []), 4, 176),
  (17, (.ifCond .ne 5, 20, 22, 0, .null, []), 0, 0),
  (20, (.iconst (-1), 21, 0, 0, .int (-1 : Int32), []), 0, 0),
  (21, (.ireturn, 22, 0, 0, .null, []), 0, 0),
  (22, (.aload_n 0, 23, 0, 0, .null, []), 0, 0),
  (23, (.invokevirtual 175, 26, 169, 0, .null, []), 5, 21),
  (26, (.iconst 0, 27, 0, 0, .int 0, []), 0, 0),
  (27, (.istore_n 3, 28, 3, 0, .null, []), 0, 0),
  (28, (.iload_n 3, 29, 3, 0, .null, []), 0, 0),
  (29, (.iconst 5, 30, 0, 0, .int 5, []), 0, 0),
  (30, (.if_icmp .ge 30, 33, 60, 0, .null, []), 0, 0),
  (33, (.aload_n 0, 34, 0, 0, .null, []), 0, 0),
  (34, (.bipush 10, 36, 0, 0, .int 10, []), 0, 0),
  (36, (.iload_n 1, 37, 1, 0, .null, []), 0, 0),
  (37, (.imul, 38, 0, 0, .null, []), 0, 0),
  (38, (.iload_n 3, 39, 3, 0, .null, []), 0, 0),
  (39, (.iadd, 40, 0, 0, .null, []), 0, 0),
  (40, (.invokevirtual 181, 43, 174, 1, .null, []), 5, 33),
  (43, (.iload_n 2, 44, 2, 0, .null, []), 0, 0),
  (44, (.iload_n 3, 45, 3, 0, .null, []), 0, 0),
  (45, (.invokestatic 145, 48, 160, 2, .null, []), 5, 10),
  (48, (.if_icmp .le 6, 51, 54, 0, .null, []), 0, 0),
  (51, (.bipush (-3), 53, 0, 0, .int (-3 : Int32), []), 0, 0),
  (53, (.ireturn, 54, 0, 0, .null, []), 0, 0),
  (54, (.iinc 3 1, 57, 3, 0, .int 1, []), 0, 0),
  (57, (.goto (-29), 60, 28, 0, .null, []), 0, 0),
  (60, (.aload_n 0, 61, 0, 0, .null, []), 0, 0),
  (61, (.iconst 0, 62, 0, 0, .int 0, []), 0, 0),
  (62, (.iload_n 1, 63, 1, 0, .null, []), 0, 0),
  (63, (.iadd, 64, 0, 0, .null, []), 0, 0),
  (64, (.iload_n 2, 65, 2, 0, .null, []), 0, 0),
  (65, (.invokevirtual 211, 68, 188, 2, .null, []), 5, 103),
  (68, (.ireturn, 69, 0, 0, .null, []), 0, 0)]
/-- ThreadBankModel.day(I)I -/
def qc_195 : List qm_E := [
  (0, (.iload_n 1, 1, 1, 0, .null, []), 0, 0),
  (1, (.i2l, 2, 0, 0, .null, []), 0, 0),
  (2, (.lconst 0, 3, 0, 0, .long 0, []), 0, 0),
  (3, (.ldc2_w 223, 6, 0, 0, .long 9, []), 5, 139),
  (6, (.invokestatic 66, 9, 141, 3, .null, []), 4, 176),
  (9, (.ifCond .eq 12, 12, 21, 0, .null, []), 0, 0),
  (12, (.aload_n 0, 13, 0, 0, .null, []), 0, 0),
  (13, (.iconst 5, 14, 0, 0, .int 5, []), 0, 0),
  (14, (.iload_n 1, 15, 1, 0, .null, []), 0, 0),
  (15, (.invokevirtual 211, 18, 188, 2, .null, []), 5, 103),
  (18, (.goto 4, 21, 22, 0, .null, []), 0, 0),
  (21, (.iconst (-1), 22, 0, 0, .int (-1 : Int32), []), 0, 0),
  (22, (.ireturn, 23, 0, 0, .null, []), 0, 0)]
/-- ThreadBankModel.owed(II)I -/
def qc_196 : List qm_E := [
  (0, (.aload_n 0, 1, 0, 0, .null, []), 0, 0),
  (1, (.iload_n 1, 2, 1, 0, .null, []), 0, 0),
  (2, (.invokevirtual 204, 5, 166, 1, .null, []), 5, 97),
  (5, (.ifCond .eq 10, 8, 15, 0, .null, []), 0, 0),
  (8, (.iload_n 2, 9, 2, 0, .null, []), 0, 0),
  (9, (.invokestatic 196, 12, 168, 1, .null, []), 5, 81),
  (12, (.ifCond .ne 5, 15, 17, 0, .null, []), 0, 0),
  (15, (.iconst (-1), 16, 0, 0, .int (-1 : Int32), []), 0, 0),
  (16, (.ireturn, 17, 0, 0, .null, []), 0, 0),
  (17, (.aload_n 0, 18, 0, 0, .null, []), 0, 0),
  (18, (.invokevirtual 175, 21, 169, 0, .null, []), 5, 21),
  (21, (.aload_n 0, 22, 0, 0, .null, []), 0, 0),
  (22, (.iload_n 2, 23, 2, 0, .null, []), 0, 0),
  (23, (.ifCond .ne 8, 26, 31, 0, .null, []), 0, 0),
  (26, (.bipush 9, 28, 0, 0, .int 9, []), 0, 0),
  (28, (.goto 9, 31, 37, 0, .null, []), 0, 0),
  (31, (.aload_n 0, 32, 0, 0, .null, []), 0, 0),
  (32, (.getfield 13, 35, 5, 1, .null, []), 4, 93),
  (35, (.iconst 5, 36, 0, 0, .int 5, []), 0, 0),
  (36, (.iaload, 37, 0, 0, .null, []), 0, 0),
  (37, (.invokevirtual 184, 40, 180, 1, .null, []), 5, 49),
  (40, (.aload_n 0, 41, 0, 0, .null, []), 0, 0),
  (41, (.iload_n 1, 42, 1, 0, .null, []), 0, 0),
  (42, (.invokevirtual 225, 45, 181, 1, .null, []), 5, 144),
  (45, (.ireturn, 46, 0, 0, .null, []), 0, 0)]
/-- ThreadBankModel.sum(I)I -/
def qc_197 : List qm_E := [
  (0, (.iload_n 1, 1, 1, 0, .null, []), 0, 0),
  (1, (.i2l, 2, 0, 0, .null, []), 0, 0),
  (2, (.lconst 0, 3, 0, 0, .long 0, []), 0, 0),
  (3, (.ldc2_w 228, 6, 0, 0, .long 2, []), 5, 152),
  (6, (.invokestatic 66, 9, 141, 3, .null, []), 4, 176),
  (9, (.ifCond .ne 5, 12, 14, 0, .null, []), 0, 0),
  (12, (.iconst (-1), 13, 0, 0, .int (-1 : Int32), []), 0, 0),
  (13, (.ireturn, 14, 0, 0, .null, []), 0, 0),
  (14, (.aload_n 0, 15, 0, 0, .null, []), 0, 0),
  (15, (.invokevirtual 175, 18, 169, 0, .null, []), 5, 21),
  (18, (.aload_n 0, 19, 0, 0, .null, []), 0, 0),
  (19, (.iload_n 1, 20, 1, 0, .null, []), 0, 0),
  (20, (.iconst 1, 21, 0, 0, .int 1, []), 0, 0),
  (21, (.if_icmp .ne 12, 24, 33, 0, .null, []), 0, 0),
  (24, (.aload_n 0, 25, 0, 0, .null, []), 0, 0),
  (25, (.getfield 13, 28, 5, 1, .null, []), 4, 93),
  (28, (.iconst 5, 29, 0, 0, .int 5, []), 0, 0),
  (29, (.iaload, 30, 0, 0, .null, []), 0, 0),
  (30, (.goto 5, 33, 35, 0, .null, []), 0, 0),
  (33, (.bipush 9, 35, 0, 0, .int 9, []), 0, 0),
  (35, (.invokevirtual 184, 38, 180, 1, .null, []), 5, 49),
  (38, (.iconst 0, 39, 0, 0, .int 0, []), 0, 0),
  (39, (.istore_n 2, 40, 2, 0, .null, []), 0, 0),
  (40, (.iconst 0, 41, 0, 0, .int 0, []), 0, 0),
  (41, (.istore_n 3, 42, 3, 0, .null, []), 0, 0),
  (42, (.iload_n 3, 43, 3, 0, .null, []), 0, 0),
  (43, (.aload_n 0, 44, 0, 0, .null, []), 0, 0),
  (44, (.getfield 61, 47, 5, 3, .null, []), 4, 95),
  (47, (.if_icmp .ge 29, 50, 76, 0, .null, []), 0, 0),
  (50, (.iload_n 2, 51, 2, 0, .null, []), 0, 0),
  (51, (.aload_n 0, 52, 0, 0, .null, []), 0, 0),
  (52, (.iload_n 3, 53, 3, 0, .null, []), 0, 0),
  (53, (.invokevirtual 190, 56, 182, 1, .null, []), 5, 69),
  (56, (.ifCond .le 11, 59, 67, 0, .null, []), 0, 0),
  (59, (.aload_n 0, 60, 0, 0, .null, []), 0, 0),
  (60, (.iload_n 3, 61, 3, 0, .null, []), 0, 0),
  (61, (.invokevirtual 190, 64, 182, 1, .null, []), 5, 69),
  (64, (.goto 4, 67, 68, 0, .null, []), 0, 0),
  (67, (.iconst 0, 68, 0, 0, .int 0, []), 0, 0),
  (68, (.iadd, 69, 0, 0, .null, []), 0, 0),
  (69, (.istore_n 2, 70, 2, 0, .null, []), 0, 0),
  (70, (.iinc 3 1, 73, 3, 0, .int 1, []), 0, 0),
  (73, (.goto (-31), 76, 42, 0, .null, []), 0, 0),
  (76, (.iload_n 1, 77, 1, 0, .null, []), 0, 0),
  (77, (.iconst 2, 78, 0, 0, .int 2, []), 0, 0),
  (78, (.if_icmp .ne 7, 81, 85, 0, .null, []), 0, 0),
  (81, (.iload_n 2, 82, 2, 0, .null, []), 0, 0),
  (82, (.goto 7, 85, 89, 0, .null, []), 0, 0),
  (85, (.aload_n 0, 86, 0, 0, .null, []), 0, 0),
  (86, (.invokevirtual 230, 89, 183, 0, .null, []), 5, 153),
  (89, (.ireturn, 90, 0, 0, .null, []), 0, 0)]
/-- ThreadBankModel.isRow(II)Z -/
def qc_198 : List qm_E := [
  (0, (.iload_n 1, 1, 1, 0, .null, []), 0, 0),
  (1, (.istore_n 3, 2, 3, 0, .null, []), 0, 0),
  (2, (.iconst 1, 3, 0, 0, .int 1, []), 0, 0),
  (3, (.istore 4, 5, 4, 0, .null, []), 0, 0),
  (5, (.iload_n 2, 6, 2, 0, .null, []), 0, 0),
  (6, (.iconst 1, 7, 0, 0, .int 1, []), 0, 0),
  (7, (.isub, 8, 0, 0, .null, []), 0, 0),
  (8, (.istore 5, 10, 5, 0, .null, []), 0, 0),
  (10, (.iload 5, 12, 5, 0, .null, []), 0, 0),
  (12, (.ifCond .lt 23, 15, 35, 0, .null, []), 0, 0),
  (15, (.aload_n 0, 16, 0, 0, .null, []), 0, 0),
  (16, (.getfield 29, 19, 5, 17, .null, []), 4, 109),
  (19, (.iload 5, 21, 5, 0, .null, []), 0, 0),
  (21, (.iload_n 3, 22, 3, 0, .null, []), 0, 0),
  (22, (.iconst 4, 23, 0, 0, .int 4, []), 0, 0),
  (23, (.irem, 24, 0, 0, .null, []), 0, 0),
  (24, (.iastore, 25, 0, 0, .null, []), 0, 0),
  (25, (.iload_n 3, 26, 3, 0, .null, []), 0, 0),
  (26, (.iconst 4, 27, 0, 0, .int 4, []), 0, 0),
  (27, (.idiv, 28, 0, 0, .null, []), 0, 0),
  (28, (.istore_n 3, 29, 3, 0, .null, []), 0, 0),
  (29, (.iinc 5 (-1), 32, 5, 0, .int (-1 : Int32), []), 0, 0),
  (32, (.goto (-22), 35, 10, 0, .null, []), 0, 0),
  (35, (.iconst 0, 36, 0, 0, .int 0, []), 0, 0),
  (36, (.istore 5, 38, 5, 0, .null, []), 0, 0),
  (38, (.iload 5, 40, 5, 0, .null, []), 0, 0),
  (40, (.iload_n 2, 41, 2, 0, .null, []), 0, 0),
  (41, (.if_icmp .ge 101, 44, 142, 0, .null, []), 0, 0),
  (44, (.iload 4, 46, 4, 0, .null, []), 0, 0),
  (46, (.ifCond .eq 42, 49, 88, 0, .null, []), 0, 0),
  (49, (.aload_n 0, 50, 0, 0, .null, []), 0, 0),
  (50, (.getfield 29, 53, 5, 17, .null, []), 4, 109),
  (53, (.iload 5, 55, 5, 0, .null, []), 0, 0),
  (55, (.iaload, 56, 0, 0, .null, []), 0, 0),
  (56, (.aload_n 0, 57, 0, 0, .null, []), 0, 0),
  (57, (.getfield 61, 60, 5, 3, .null, []), 4, 95),
  (60, (.if_icmp .ge 28, 63, 88, 0, .null, []), 0, 0),
  (63, (.iload 5, 65, 5, 0, .null, []), 0, 0),
  (65, (.ifCond .eq 19, 68, 84, 0, .null, []), 0, 0),
  (68, (.aload_n 0, 69, 0, 0, .null, []), 0, 0),
  (69, (.getfield 29, 72, 5, 17, .null, []), 4, 109),
  (72, (.iload 5, 74, 5, 0, .null, []), 0, 0),
  (74, (.iaload, 75, 0, 0, .null, []), 0, 0),
  (75, (.aload_n 0, 76, 0, 0, .null, []), 0, 0),
  (76, (.getfield 29, 79, 5, 17, .null, []), 4, 109),
  (79, (.iconst 0, 80, 0, 0, .int 0, []), 0, 0),
  (80, (.iaload, 81, 0, 0, .null, []), 0, 0),
  (81, (.if_icmp .le 7, 84, 88, 0, .null, []), 0, 0),
  (84, (.iconst 1, 85, 0, 0, .int 1, []), 0, 0),
  (85, (.goto 4, 88, 89, 0, .null, []), 0, 0),
  (88, (.iconst 0, 89, 0, 0, .int 0, []), 0, 0),
  (89, (.istore 4, 91, 4, 0, .null, []), 0, 0),
  (91, (.iconst 1, 92, 0, 0, .int 1, []), 0, 0),
  (92, (.istore 6, 94, 6, 0, .null, []), 0, 0),
  (94, (.iload 6, 96, 6, 0, .null, []), 0, 0),
  (96, (.iload 5, 98, 5, 0, .null, []), 0, 0),
  (98, (.if_icmp .ge 38, 101, 136, 0, .null, []), 0, 0),
  (101, (.iload 4, 103, 4, 0, .null, []), 0, 0),
  (103, (.ifCond .eq 24, 106, 127, 0, .null, []), 0, 0),
  (106, (.aload_n 0, 107, 0, 0, .null, []), 0, 0),
  (107, (.getfield 29, 110, 5, 17, .null, []), 4, 109),
  (110, (.iload 5, 112, 5, 0, .null, []), 0, 0),
  (112, (.iaload, 113, 0, 0, .null, []), 0, 0),
  (113, (.aload_n 0, 114, 0, 0, .null, []), 0, 0),
  (114, (.getfield 29, 117, 5, 17, .null, []), 4, 109),
  (117, (.iload 6, 119, 6, 0, .null, []), 0, 0),
  (119, (.iaload, 120, 0, 0, .null, []), 0, 0),
  (120, (.if_icmp .eq 7, 123, 127, 0, .null, []), 0, 0),
  (123, (.iconst 1, 124, 0, 0, .int 1, []), 0, 0),
  (124, (.goto 4, 127, 128, 0, .null, []), 0, 0),
  (127, (.iconst 0, 128, 0, 0, .int 0, []), 0, 0),
  (128, (.istore 4, 130, 4, 0, .null, []), 0, 0),
  (130, (.iinc 6 1, 133, 6, 0, .int 1, []), 0, 0),
  (133, (.goto (-39), 136, 94, 0, .null, []), 0, 0),
  (136, (.iinc 5 1, 139, 5, 0, .int 1, []), 0, 0),
  (139, (.goto (-101), 142, 38, 0, .null, []), 0, 0),
  (142, (.iload 4, 144, 4, 0, .null, []), 0, 0),
  (144, (.ireturn, 145, 0, 0, .null, []), 0, 0)]
/-- ThreadBankModel.leastIn(I)I -/
def qc_199 : List qm_E := [
  (0, (.ldc 233, 2, 0, 0, .int 1000000, []), 5, 181),
  (2, (.istore_n 2, 3, 2, 0, .null, []), 0, 0),
  (3, (.iconst 0, 4, 0, 0, .int 0, []), 0, 0),
  (4, (.istore_n 3, 5, 3, 0, .null, []), 0, 0),
  (5, (.iload_n 3, 6, 3, 0, .null, []), 0, 0),
  (6, (.iload_n 1, 7, 1, 0, .null, []), 0, 0),
  (7, (.if_icmp .ge 48, 10, 55, 0, .null, []), 0, 0),
  (10, (.aload_n 0, 11, 0, 0, .null, []), 0, 0),
  (11, (.getfield 26, 14, 5, 16, .null, []), 4, 108),
  (14, (.iconst 4, 15, 0, 0, .int 4, []), 0, 0),
  (15, (.aload_n 0, 16, 0, 0, .null, []), 0, 0),
  (16, (.getfield 29, 19, 5, 17, .null, []), 4, 109),
  (19, (.iload_n 3, 20, 3, 0, .null, []), 0, 0),
  (20, (.iaload, 21, 0, 0, .null, []), 0, 0),
  (21, (.imul, 22, 0, 0, .null, []), 0, 0),
  (22, (.aload_n 0, 23, 0, 0, .null, []), 0, 0),
  (23, (.getfield 29, 26, 5, 17, .null, []), 4, 109),
  (26, (.iload_n 3, 27, 3, 0, .null, []), 0, 0),
  (27, (.iconst 1, 28, 0, 0, .int 1, []), 0, 0),
  (28, (.iadd, 29, 0, 0, .null, []), 0, 0),
  (29, (.iload_n 1, 30, 1, 0, .null, []), 0, 0),
  (30, (.irem, 31, 0, 0, .null, []), 0, 0),
  (31, (.iaload, 32, 0, 0, .null, []), 0, 0),
  (32, (.iadd, 33, 0, 0, .null, []), 0, 0),
  (33, (.iaload, 34, 0, 0, .null, []), 0, 0),
  (34, (.istore 4, 36, 4, 0, .null, []), 0, 0),
  (36, (.iload 4, 38, 4, 0, .null, []), 0, 0),
  (38, (.iload_n 2, 39, 2, 0, .null, []), 0, 0),
  (39, (.if_icmp .ge 8, 42, 47, 0, .null, []), 0, 0),
  (42, (.iload 4, 44, 4, 0, .null, []), 0, 0),
  (44, (.goto 4, 47, 48, 0, .null, []), 0, 0),
  (47, (.iload_n 2, 48, 2, 0, .null, []), 0, 0),
  (48, (.istore_n 2, 49, 2, 0, .null, []), 0, 0),
  (49, (.iinc 3 1, 52, 3, 0, .int 1, []), 0, 0),
  (52, (.goto (-47), 55, 5, 0, .null, []), 0, 0),
  (55, (.iload_n 2, 56, 2, 0, .null, []), 0, 0),
  (56, (.ireturn, 57, 0, 0, .null, []), 0, 0)]
/-- ThreadBankModel.power(II)I -/
def qc_200 : List qm_E := [
  (0, (.iconst 1, 1, 0, 0, .int 1, []), 0, 0),
  (1, (.istore_n 2, 2, 2, 0, .null, []), 0, 0),
  (2, (.iconst 0, 3, 0, 0, .int 0, []), 0, 0),
  (3, (.istore_n 3, 4, 3, 0, .null, []), 0, 0),
  (4, (.iload_n 3, 5, 3, 0, .null, []), 0, 0),
  (5, (.iload_n 1, 6, 1, 0, .null, []), 0, 0),
  (6, (.if_icmp .ge 13, 9, 19, 0, .null, []), 0, 0),
  (9, (.iload_n 2, 10, 2, 0, .null, []), 0, 0),
  (10, (.iload_n 0, 11, 0, 0, .null, []), 0, 0),
  (11, (.imul, 12, 0, 0, .null, []), 0, 0),
  (12, (.istore_n 2, 13, 2, 0, .null, []), 0, 0),
  (13, (.iinc 3 1, 16, 3, 0, .int 1, []), 0, 0),
  (16, (.goto (-12), 19, 4, 0, .null, []), 0, 0),
  (19, (.iload_n 2, 20, 2, 0, .null, []), 0, 0),
  (20, (.ireturn, 21, 0, 0, .null, []), 0, 0)]
/-- ThreadBankModel.findRing()Z -/
def qc_201 : List qm_E := [
  (0, (.aload_n 0, 1, 0, 0, .null, []), 0, 0),
  (1, (.iconst 0, 2, 0, 0, .int 0, []), 0, 0),
  (2, (.putfield 234, 5, 5, 18, .null, []), 4, 110),
  (5, (.aload_n 0, 6, 0, 0, .null, []), 0, 0),
  (6, (.iconst 0, 7, 0, 0, .int 0, []), 0, 0),
  (7, (.putfield 237, 10, 5, 19, .null, []), 4, 111),
  (10, (.iconst 2, 11, 0, 0, .int 2, []), 0, 0),
  (11, (.istore_n 1, 12, 1, 0, .null, []), 0, 0),
  (12, (.iload_n 1, 13, 1, 0, .null, []), 0, 0),
  (13, (.iconst 4, 14, 0, 0, .int 4, []), 0, 0),
  (14, (.if_icmp .gt 107, 17, 121, 0, .null, []), 0, 0),
  (17, (.iconst 0, 18, 0, 0, .int 0, []), 0, 0),
  (18, (.istore_n 2, 19, 2, 0, .null, []), 0, 0),
  (19, (.iload_n 2, 20, 2, 0, .null, []), 0, 0),
  (20, (.iconst 4, 21, 0, 0, .int 4, []), 0, 0),
  (21, (.iload_n 1, 22, 1, 0, .null, []), 0, 0),
  (22, (.invokestatic 240, 25, 200, 2, .null, []), 5, 170),
  (25, (.if_icmp .ge 90, 28, 115, 0, .null, []), 0, 0),
  (28, (.aload_n 0, 29, 0, 0, .null, []), 0, 0),
  (29, (.iload_n 2, 30, 2, 0, .null, []), 0, 0),
  (30, (.iload_n 1, 31, 1, 0, .null, []), 0, 0),
  (31, (.invokevirtual 243, 34, 198, 2, .null, []), 5, 173),
  (34, (.ifCond .eq 13, 37, 47, 0, .null, []), 0, 0),
  (37, (.iload_n 1, 38, 1, 0, .null, []), 0, 0),
  (38, (.aload_n 0, 39, 0, 0, .null, []), 0, 0),
  (39, (.iload_n 1, 40, 1, 0, .null, []), 0, 0),
  (40, (.invokevirtual 246, 43, 199, 1, .null, []), 5, 177),
  (43, (.imul, 44, 0, 0, .null, []), 0, 0),
  (44, (.goto 4, 47, 48, 0, .null, []), 0, 0),
  (47, (.iconst 0, 48, 0, 0, .int 0, []), 0, 0),
  (48, (.istore_n 3, 49, 3, 0, .null, []), 0, 0),
  (49, (.aload_n 0, 50, 0, 0, .null, []), 0, 0),
  (50, (.iload_n 3, 51, 3, 0, .null, []), 0, 0),
  (51, (.aload_n 0, 52, 0, 0, .null, []), 0, 0),
  (52, (.getfield 234, 55, 5, 18, .null, []), 4, 110),
  (55, (.if_icmp .le 7, 58, 62, 0, .null, []), 0, 0),
  (58, (.iload_n 1, 59, 1, 0, .null, []), 0, 0),
  (59, (.goto 7, 62, 66, 0, .null, []), 0, 0),
  (62, (.aload_n 0, 63, 0, 0, .null, []), 0, 0),
  (63, (.getfield 237, 66, 5, 19, .null, []), 4, 111),
  (66, (.putfield 237, 69, 5, 19, .null, []), 4, 111),
  (69, (.aload_n 0, 70, 0, 0, .null, []), 0, 0),
  (70, (.iload_n 3, 71, 3, 0, .null, []), 0, 0),
  (71, (.aload_n 0, 72, 0, 0, .null, []), 0, 0),
  (72, (.getfield 234, 75, 5, 18, .null, []), 4, 110),
  (75, (.if_icmp .le 7, 78, 82, 0, .null, []), 0, 0),
  (78, (.iload_n 2, 79, 2, 0, .null, []), 0, 0),
  (79, (.goto 7, 82, 86, 0, .null, []), 0, 0),
  (82, (.aload_n 0, 83, 0, 0, .null, []), 0, 0),
  (83, (.getfield 249, 86, 5, 20, .null, []), 4, 112),
  (86, (.putfield 249, 89, 5, 20, .null, []), 4, 112),
  (89, (.aload_n 0, 90, 0, 0, .null, []), 0, 0),
  (90, (.iload_n 3, 91, 3, 0, .null, []), 0, 0),
  (91, (.aload_n 0, 92, 0, 0, .null, []), 0, 0),
  (92, (.getfield 234, 95, 5, 18, .null, []), 4, 110),
  (95, (.if_icmp .le 7, 98, 102, 0, .null, []), 0, 0),
  (98, (.iload_n 3, 99, 3, 0, .null, []), 0, 0),
  (99, (.goto 7, 102, 106, 0, .null, []), 0, 0),
  (102, (.aload_n 0, 103, 0, 0, .null, []), 0, 0),
  (103, (.getfield 234, 106, 5, 18, .null, []), 4, 110),
  (106, (.putfield 234, 109, 5, 18, .null, []), 4, 110),
  (109, (.iinc 2 1, 112, 2, 0, .int 1, []), 0, 0),
  (112, (.goto (-93), 115, 19, 0, .null, []), 0, 0),
  (115, (.iinc 1 1, 118, 1, 0, .int 1, []), 0, 0),
  (118, (.goto (-106), 121, 12, 0, .null, []), 0, 0),
  (121, (.aload_n 0, 122, 0, 0, .null, []), 0, 0),
  (122, (.getfield 234, 125, 5, 18, .null, []), 4, 110),
  (125, (.ifCond .le 7, 128, 132, 0, .null, []), 0, 0),
  (128, (.iconst 1, 129, 0, 0, .int 1, []), 0, 0),
  (129, (.goto 4, 132, 133, 0, .null, []), 0, 0),
  (132, (.iconst 0, 133, 0, 0, .int 0, []), 0, 0),
  (133, (.ireturn, 134, 0, 0, .null, []), 0, 0)]
/-- ThreadBankModel.startsOwed()V -/
def qc_202 : List qm_E := [
  (0, (.aload_n 0, 1, 0, 0, .null, []), 0, 0),
  (1, (.invokevirtual 175, 4, 169, 0, .null, []), 5, 21),
  (4, (.aload_n 0, 5, 0, 0, .null, []), 0, 0),
  (5, (.bipush 9, 7, 0, 0, .int 9, []), 0, 0),
  (7, (.invokevirtual 184, 10, 180, 1, .null, []), 5, 49),
  (10, (.return_, 11, 0, 0, .null, []), 0, 0)]
/-- ThreadBankModel.ring(I)I -/
def qc_203 : List qm_E := [
  (0, (.iload_n 1, 1, 1, 0, .null, []), 0, 0),
  (1, (.invokestatic 196, 4, 168, 1, .null, []), 5, 81),
  (4, (.ifCond .ne 19, 7, 23, 0, .null, []), 0, 0),
  (7, (.iload_n 1, 8, 1, 0, .null, []), 0, 0),
  (8, (.i2l, 9, 0, 0, .null, []), 0, 0),
  (9, (.ldc2_w 207, 12, 0, 0, .long 10, []), 5, 101),
  (12, (.ldc2_w 252, 15, 0, 0, .long 13, []), 5, 161),
  (15, (.invokestatic 66, 18, 141, 3, .null, []), 4, 176),
  (18, (.ifCond .ne 5, 21, 23, 0, .null, []), 0, 0),
  (21, (.iconst (-1), 22, 0, 0, .int (-1 : Int32), []), 0, 0),
  (22, (.ireturn, 23, 0, 0, .null, []), 0, 0),
  (23, (.aload_n 0, 24, 0, 0, .null, []), 0, 0),
  (24, (.invokevirtual 254, 27, 202, 0, .null, []), 5, 162),
  (27, (.aload_n 0, 28, 0, 0, .null, []), 0, 0),
  (28, (.invokevirtual 257, 31, 201, 0, .null, []), 5, 166),
  (31, (.ifCond .ne 6, 34, 37, 0, .null, []), 0, 0),
  (34, (.bipush (-4), 36, 0, 0, .int (-4 : Int32), []), 0, 0),
  (36, (.ireturn, 37, 0, 0, .null, []), 0, 0),
  (37, (.aload_n 0, 38, 0, 0, .null, []), 0, 0),
  (38, (.aload_n 0, 39, 0, 0, .null, []), 0, 0),
  (39, (.getfield 249, 42, 5, 20, .null, []), 4, 112),
  (42, (.aload_n 0, 43, 0, 0, .null, []), 0, 0),
  (43, (.getfield 237, 46, 5, 19, .null, []), 4, 111),
  (46, (.invokevirtual 243, 49, 198, 2, .null, []), 5, 173),
  (49, (.pop, 50, 0, 0, .null, []), 0, 0),
  (50, (.iload_n 1, 51, 1, 0, .null, []), 0, 0),
  (51, (.ifCond .ne 10, 54, 61, 0, .null, []), 0, 0),
  (54, (.aload_n 0, 55, 0, 0, .null, []), 0, 0),
  (55, (.getfield 234, 58, 5, 18, .null, []), 4, 110),
  (58, (.goto 40, 61, 98, 0, .null, []), 0, 0),
  (61, (.iload_n 1, 62, 1, 0, .null, []), 0, 0),
  (62, (.iconst 1, 63, 0, 0, .int 1, []), 0, 0),
  (63, (.if_icmp .ne 10, 66, 73, 0, .null, []), 0, 0),
  (66, (.aload_n 0, 67, 0, 0, .null, []), 0, 0),
  (67, (.getfield 237, 70, 5, 19, .null, []), 4, 111),
  (70, (.goto 28, 73, 98, 0, .null, []), 0, 0),
  (73, (.iload_n 1, 74, 1, 0, .null, []), 0, 0),
  (74, (.bipush 10, 76, 0, 0, .int 10, []), 0, 0),
  (76, (.isub, 77, 0, 0, .null, []), 0, 0),
  (77, (.aload_n 0, 78, 0, 0, .null, []), 0, 0),
  (78, (.getfield 237, 81, 5, 19, .null, []), 4, 111),
  (81, (.if_icmp .ge 15, 84, 96, 0, .null, []), 0, 0),
  (84, (.aload_n 0, 85, 0, 0, .null, []), 0, 0),
  (85, (.getfield 29, 88, 5, 17, .null, []), 4, 109),
  (88, (.iload_n 1, 89, 1, 0, .null, []), 0, 0),
  (89, (.bipush 10, 91, 0, 0, .int 10, []), 0, 0),
  (91, (.isub, 92, 0, 0, .null, []), 0, 0),
  (92, (.iaload, 93, 0, 0, .null, []), 0, 0),
  (93, (.goto 5, 96, 98, 0, .null, []), 0, 0),
  (96, (.bipush (-4), 98, 0, 0, .int (-4 : Int32), []), 0, 0),
  (98, (.ireturn, 99, 0, 0, .null, []), 0, 0)]
/-- ThreadBankModel.clears()I -/
def qc_204 : List qm_E := [
  (0, (.iconst 0, 1, 0, 0, .int 0, []), 0, 0),
  (1, (.istore_n 1, 2, 1, 0, .null, []), 0, 0),
  (2, (.aload_n 0, 3, 0, 0, .null, []), 0, 0),
  (3, (.invokevirtual 254, 6, 202, 0, .null, []), 5, 162),
  (6, (.aload_n 0, 7, 0, 0, .null, []), 0, 0),
  (7, (.invokevirtual 257, 10, 201, 0, .null, []), 5, 166),
  (10, (.ifCond .eq 79, 13, 89, 0, .null, []), 0, 0),
  (13, (.aload_n 0, 14, 0, 0, .null, []), 0, 0),
  (14, (.aload_n 0, 15, 0, 0, .null, []), 0, 0),
  (15, (.getfield 249, 18, 5, 20, .null, []), 4, 112),
  (18, (.aload_n 0, 19, 0, 0, .null, []), 0, 0),
  (19, (.getfield 237, 22, 5, 19, .null, []), 4, 111),
  (22, (.invokevirtual 243, 25, 198, 2, .null, []), 5, 173),
  (25, (.pop, 26, 0, 0, .null, []), 0, 0),
  (26, (.aload_n 0, 27, 0, 0, .null, []), 0, 0),
  (27, (.getfield 234, 30, 5, 18, .null, []), 4, 110),
  (30, (.aload_n 0, 31, 0, 0, .null, []), 0, 0),
  (31, (.getfield 237, 34, 5, 19, .null, []), 4, 111),
  (34, (.idiv, 35, 0, 0, .null, []), 0, 0),
  (35, (.istore_n 2, 36, 2, 0, .null, []), 0, 0),
  (36, (.iconst 0, 37, 0, 0, .int 0, []), 0, 0),
  (37, (.istore_n 3, 38, 3, 0, .null, []), 0, 0),
  (38, (.iload_n 3, 39, 3, 0, .null, []), 0, 0),
  (39, (.aload_n 0, 40, 0, 0, .null, []), 0, 0),
  (40, (.getfield 237, 43, 5, 19, .null, []), 4, 111),
  (43, (.if_icmp .ge 40, 46, 83, 0, .null, []), 0, 0),
  (46, (.aload_n 0, 47, 0, 0, .null, []), 0, 0),
  (47, (.getfield 26, 50, 5, 16, .null, []), 4, 108),
  (50, (.iconst 4, 51, 0, 0, .int 4, []), 0, 0),
  (51, (.aload_n 0, 52, 0, 0, .null, []), 0, 0),
  (52, (.getfield 29, 55, 5, 17, .null, []), 4, 109),
  (55, (.iload_n 3, 56, 3, 0, .null, []), 0, 0),
  (56, (.iaload, 57, 0, 0, .null, []), 0, 0),
  (57, (.imul, 58, 0, 0, .null, []), 0, 0),
  (58, (.aload_n 0, 59, 0, 0, .null, []), 0, 0),
  (59, (.getfield 29, 62, 5, 17, .null, []), 4, 109),
  (62, (.iload_n 3, 63, 3, 0, .null, []), 0, 0),
  (63, (.iconst 1, 64, 0, 0, .int 1, []), 0, 0),
  (64, (.iadd, 65, 0, 0, .null, []), 0, 0),
  (65, (.aload_n 0, 66, 0, 0, .null, []), 0, 0),
  (66, (.getfield 237, 69, 5, 19, .null, []), 4, 111),
  (69, (.irem, 70, 0, 0, .null, []), 0, 0),
  (70, (.iaload, 71, 0, 0, .null, []), 0, 0),
  (71, (.iadd, 72, 0, 0, .null, []), 0, 0),
  (72, (.dup2, 73, 0, 0, .null, []), 0, 0),
  (73, (.iaload, 74, 0, 0, .null, []), 0, 0),
  (74, (.iload_n 2, 75, 2, 0, .null, []), 0, 0),
  (75, (.isub, 76, 0, 0, .null, []), 0, 0),
  (76, (.iastore, 77, 0, 0, .null, []), 0, 0),
  (77, (.iinc 3 1, 80, 3, 0, .int 1, []), 0, 0),
  (80, (.goto (-42), 83, 38, 0, .null, []), 0, 0),
  (83, (.iinc 1 1, 86, 1, 0, .int 1, []), 0, 0),
  (86, (.goto (-80), 89, 6, 0, .null, []), 0, 0),
  (89, (.iload_n 1, 90, 1, 0, .null, []), 0, 0),
  (90, (.ireturn, 91, 0, 0, .null, []), 0, 0)]
/-- ThreadBankModel.clear(I)I -/
def qc_205 : List qm_E := [
  (0, (.iload_n 1, 1, 1, 0, .null, []), 0, 0),
  (1, (.invokestatic 196, 4, 168, 1, .null, []), 5, 81),
  (4, (.ifCond .ne 5, 7, 9, 0, .null, []), 0, 0),
  (7, (.iconst (-1), 8, 0, 0, .int (-1 : Int32), []), 0, 0),
  (8, (.ireturn, 9, 0, 0, .null, []), 0, 0),
  (9, (.aload_n 0, 10, 0, 0, .null, []), 0, 0),
  (10, (.invokevirtual 260, 13, 204, 0, .null, []), 5, 186),
  (13, (.istore_n 2, 14, 2, 0, .null, []), 0, 0),
  (14, (.iload_n 1, 15, 1, 0, .null, []), 0, 0),
  (15, (.ifCond .ne 10, 18, 25, 0, .null, []), 0, 0),
  (18, (.aload_n 0, 19, 0, 0, .null, []), 0, 0),
  (19, (.invokevirtual 230, 22, 183, 0, .null, []), 5, 153),
  (22, (.goto 4, 25, 26, 0, .null, []), 0, 0),
  (25, (.iload_n 2, 26, 2, 0, .null, []), 0, 0),
  (26, (.ireturn, 27, 0, 0, .null, []), 0, 0)]
/-- ThreadBankModel.left(I)I -/
def qc_206 : List qm_E := [
  (0, (.aload_n 0, 1, 0, 0, .null, []), 0, 0),
  (1, (.iload_n 1, 2, 1, 0, .null, []), 0, 0),
  (2, (.invokevirtual 204, 5, 166, 1, .null, []), 5, 97),
  (5, (.ifCond .ne 5, 8, 10, 0, .null, []), 0, 0),
  (8, (.iconst (-1), 9, 0, 0, .int (-1 : Int32), []), 0, 0),
  (9, (.ireturn, 10, 0, 0, .null, []), 0, 0),
  (10, (.aload_n 0, 11, 0, 0, .null, []), 0, 0),
  (11, (.invokevirtual 260, 14, 204, 0, .null, []), 5, 186),
  (14, (.pop, 15, 0, 0, .null, []), 0, 0),
  (15, (.aload_n 0, 16, 0, 0, .null, []), 0, 0),
  (16, (.iload_n 1, 17, 1, 0, .null, []), 0, 0),
  (17, (.invokevirtual 225, 20, 181, 1, .null, []), 5, 144),
  (20, (.ireturn, 21, 0, 0, .null, []), 0, 0)]
/-- ThreadBankModel.bitsOf(I)I -/
def qc_207 : List qm_E := [
  (0, (.iconst 0, 1, 0, 0, .int 0, []), 0, 0),
  (1, (.istore_n 1, 2, 1, 0, .null, []), 0, 0),
  (2, (.iconst 0, 3, 0, 0, .int 0, []), 0, 0),
  (3, (.istore_n 2, 4, 2, 0, .null, []), 0, 0),
  (4, (.iload_n 2, 5, 2, 0, .null, []), 0, 0),
  (5, (.bipush 10, 7, 0, 0, .int 10, []), 0, 0),
  (7, (.if_icmp .ge 17, 10, 24, 0, .null, []), 0, 0),
  (10, (.iload_n 1, 11, 1, 0, .null, []), 0, 0),
  (11, (.iload_n 0, 12, 0, 0, .null, []), 0, 0),
  (12, (.iload_n 2, 13, 2, 0, .null, []), 0, 0),
  (13, (.ishr, 14, 0, 0, .null, []), 0, 0),
  (14, (.iconst 1, 15, 0, 0, .int 1, []), 0, 0),
  (15, (.iand, 16, 0, 0, .null, []), 0, 0),
  (16, (.iadd, 17, 0, 0, .null, []), 0, 0),
  (17, (.istore_n 1, 18, 1, 0, .null, []), 0, 0),
  (18, (.iinc 2 1, 21, 2, 0, .int 1, []), 0, 0),
  (21, (.goto (-17), 24, 4, 0, .null, []), 0, 0),
  (24, (.iload_n 1, 25, 1, 0, .null, []), 0, 0),
  (25, (.ireturn, 26, 0, 0, .null, []), 0, 0)]
/-- ThreadBankModel.netOfAll(I)I -/
def qc_208 : List qm_E := [
  (0, (.iconst 0, 1, 0, 0, .int 0, []), 0, 0),
  (1, (.istore_n 2, 2, 2, 0, .null, []), 0, 0),
  (2, (.iconst 0, 3, 0, 0, .int 0, []), 0, 0),
  (3, (.istore_n 3, 4, 3, 0, .null, []), 0, 0),
  (4, (.iload_n 3, 5, 3, 0, .null, []), 0, 0),
  (5, (.aload_n 0, 6, 0, 0, .null, []), 0, 0),
  (6, (.getfield 61, 9, 5, 3, .null, []), 4, 95),
  (9, (.if_icmp .ge 30, 12, 39, 0, .null, []), 0, 0),
  (12, (.iload_n 2, 13, 2, 0, .null, []), 0, 0),
  (13, (.iload_n 1, 14, 1, 0, .null, []), 0, 0),
  (14, (.iload_n 3, 15, 3, 0, .null, []), 0, 0),
  (15, (.ishr, 16, 0, 0, .null, []), 0, 0),
  (16, (.iconst 1, 17, 0, 0, .int 1, []), 0, 0),
  (17, (.iand, 18, 0, 0, .null, []), 0, 0),
  (18, (.iconst 1, 19, 0, 0, .int 1, []), 0, 0),
  (19, (.if_icmp .ne 11, 22, 30, 0, .null, []), 0, 0),
  (22, (.aload_n 0, 23, 0, 0, .null, []), 0, 0),
  (23, (.iload_n 3, 24, 3, 0, .null, []), 0, 0),
  (24, (.invokevirtual 190, 27, 182, 1, .null, []), 5, 69),
  (27, (.goto 4, 30, 31, 0, .null, []), 0, 0),
  (30, (.iconst 0, 31, 0, 0, .int 0, []), 0, 0),
  (31, (.iadd, 32, 0, 0, .null, []), 0, 0),
  (32, (.istore_n 2, 33, 2, 0, .null, []), 0, 0),
  (33, (.iinc 3 1, 36, 3, 0, .int 1, []), 0, 0),
  (36, (.goto (-32), 39, 4, 0, .null, []), 0, 0),
  (39, (.iload_n 2, 40, 2, 0, .null, []), 0, 0),
  (40, (.ireturn, 41, 0, 0, .null, []), 0, 0)]
/-- ThreadBankModel.pays()I -/
def qc_209 : List qm_E := [
  (0, (.aload_n 0, 1, 0, 0, .null, []), 0, 0),
  (1, (.invokevirtual 254, 4, 202, 0, .null, []), 5, 162),
  (4, (.iconst 0, 5, 0, 0, .int 0, []), 0, 0),
  (5, (.istore_n 1, 6, 1, 0, .null, []), 0, 0),
  (6, (.iconst 0, 7, 0, 0, .int 0, []), 0, 0),
  (7, (.istore_n 2, 8, 2, 0, .null, []), 0, 0),
  (8, (.iload_n 2, 9, 2, 0, .null, []), 0, 0),
  (9, (.aload_n 0, 10, 0, 0, .null, []), 0, 0),
  (10, (.getfield 61, 13, 5, 3, .null, []), 4, 95),
  (13, (.if_icmp .ge 30, 16, 43, 0, .null, []), 0, 0),
  (16, (.iload_n 1, 17, 1, 0, .null, []), 0, 0),
  (17, (.aload_n 0, 18, 0, 0, .null, []), 0, 0),
  (18, (.iload_n 2, 19, 2, 0, .null, []), 0, 0),
  (19, (.invokevirtual 190, 22, 182, 1, .null, []), 5, 69),
  (22, (.ifCond .eq 7, 25, 29, 0, .null, []), 0, 0),
  (25, (.iconst 1, 26, 0, 0, .int 1, []), 0, 0),
  (26, (.goto 4, 29, 30, 0, .null, []), 0, 0),
  (29, (.iconst 0, 30, 0, 0, .int 0, []), 0, 0),
  (30, (.invokestatic 141, 33, 142, 1, .null, []), 5, 7),
  (33, (.iload_n 2, 34, 2, 0, .null, []), 0, 0),
  (34, (.ishl, 35, 0, 0, .null, []), 0, 0),
  (35, (.ior, 36, 0, 0, .null, []), 0, 0),
  (36, (.istore_n 1, 37, 1, 0, .null, []), 0, 0),
  (37, (.iinc 2 1, 40, 2, 0, .int 1, []), 0, 0),
  (40, (.goto (-32), 43, 8, 0, .null, []), 0, 0),
  (43, (.iconst 0, 44, 0, 0, .int 0, []), 0, 0),
  (44, (.istore_n 2, 45, 2, 0, .null, []), 0, 0),
  (45, (.iload_n 2, 46, 2, 0, .null, []), 0, 0),
  (46, (.bipush 16, 48, 0, 0, .int 16, []), 0, 0),
  (48, (.if_icmp .ge 127, 51, 175, 0, .null, []), 0, 0),
  (51, (.aload_n 0, 52, 0, 0, .null, []), 0, 0),
  (52, (.getfield 32, 55, 5, 21, .null, []), 4, 113),
  (55, (.iload_n 2, 56, 2, 0, .null, []), 0, 0),
  (56, (.iload_n 2, 57, 2, 0, .null, []), 0, 0),
  (57, (.ifCond .ne 7, 60, 64, 0, .null, []), 0, 0),
  (60, (.iconst 0, 61, 0, 0, .int 0, []), 0, 0),
  (61, (.goto 5, 64, 66, 0, .null, []), 0, 0),
  (64, (.bipush (-4), 66, 0, 0, .int (-4 : Int32), []), 0, 0),
  (66, (.iastore, 67, 0, 0, .null, []), 0, 0),
  (67, (.iconst 1, 68, 0, 0, .int 1, []), 0, 0),
  (68, (.istore_n 3, 69, 3, 0, .null, []), 0, 0),
  (69, (.iload_n 3, 70, 3, 0, .null, []), 0, 0),
  (70, (.iload_n 2, 71, 2, 0, .null, []), 0, 0),
  (71, (.if_icmp .gt 98, 74, 169, 0, .null, []), 0, 0),
  (74, (.iload_n 3, 75, 3, 0, .null, []), 0, 0),
  (75, (.iload_n 2, 76, 2, 0, .null, []), 0, 0),
  (76, (.iconst (-1), 77, 0, 0, .int (-1 : Int32), []), 0, 0),
  (77, (.ixor, 78, 0, 0, .null, []), 0, 0),
  (78, (.iand, 79, 0, 0, .null, []), 0, 0),
  (79, (.ifCond .ne 28, 82, 107, 0, .null, []), 0, 0),
  (82, (.aload_n 0, 83, 0, 0, .null, []), 0, 0),
  (83, (.iload_n 3, 84, 3, 0, .null, []), 0, 0),
  (84, (.invokevirtual 263, 87, 208, 1, .null, []), 5, 198),
  (87, (.ifCond .ne 20, 90, 107, 0, .null, []), 0, 0),
  (90, (.aload_n 0, 91, 0, 0, .null, []), 0, 0),
  (91, (.getfield 32, 94, 5, 21, .null, []), 4, 113),
  (94, (.iload_n 2, 95, 2, 0, .null, []), 0, 0),
  (95, (.iload_n 3, 96, 3, 0, .null, []), 0, 0),
  (96, (.iconst (-1), 97, 0, 0, .int (-1 : Int32), []), 0, 0),
  (97, (.ixor, 98, 0, 0, .null, []), 0, 0),
  (98, (.iand, 99, 0, 0, .null, []), 0, 0),
  (99, (.iaload, 100, 0, 0, .null, []), 0, 0),
  (100, (.ifCond .lt 7, 103, 107, 0, .null, []), 0, 0),
  (103, (.iconst 1, 104, 0, 0, .int 1, []), 0, 0),
  (104, (.goto 4, 107, 108, 0, .null, []), 0, 0),
  (107, (.iconst 0, 108, 0, 0, .int 0, []), 0, 0),
  (108, (.istore 4, 110, 4, 0, .null, []), 0, 0),
  (110, (.aload_n 0, 111, 0, 0, .null, []), 0, 0),
  (111, (.getfield 32, 114, 5, 21, .null, []), 4, 113),
  (114, (.iload_n 2, 115, 2, 0, .null, []), 0, 0),
  (115, (.iload 4, 117, 4, 0, .null, []), 0, 0),
  (117, (.ifCond .eq 39, 120, 156, 0, .null, []), 0, 0),
  (120, (.aload_n 0, 121, 0, 0, .null, []), 0, 0),
  (121, (.getfield 32, 124, 5, 21, .null, []), 4, 113),
  (124, (.iload_n 2, 125, 2, 0, .null, []), 0, 0),
  (125, (.iload_n 3, 126, 3, 0, .null, []), 0, 0),
  (126, (.iconst (-1), 127, 0, 0, .int (-1 : Int32), []), 0, 0),
  (127, (.ixor, 128, 0, 0, .null, []), 0, 0),
  (128, (.iand, 129, 0, 0, .null, []), 0, 0),
  (129, (.iaload, 130, 0, 0, .null, []), 0, 0),
  (130, (.iconst 1, 131, 0, 0, .int 1, []), 0, 0),
  (131, (.iadd, 132, 0, 0, .null, []), 0, 0),
  (132, (.aload_n 0, 133, 0, 0, .null, []), 0, 0),
  (133, (.getfield 32, 136, 5, 21, .null, []), 4, 113),
  (136, (.iload_n 2, 137, 2, 0, .null, []), 0, 0),
  (137, (.iaload, 138, 0, 0, .null, []), 0, 0),
  (138, (.if_icmp .le 18, 141, 156, 0, .null, []), 0, 0),
  (141, (.aload_n 0, 142, 0, 0, .null, []), 0, 0),
  (142, (.getfield 32, 145, 5, 21, .null, []), 4, 113),
  (145, (.iload_n 2, 146, 2, 0, .null, []), 0, 0),
  (146, (.iload_n 3, 147, 3, 0, .null, []), 0, 0),
  (147, (.iconst (-1), 148, 0, 0, .int (-1 : Int32), []), 0, 0),
  (148, (.ixor, 149, 0, 0, .null, []), 0, 0),
  (149, (.iand, 150, 0, 0, .null, []), 0, 0),
  (150, (.iaload, 151, 0, 0, .null, []), 0, 0),
  (151, (.iconst 1, 152, 0, 0, .int 1, []), 0, 0),
  (152, (.iadd, 153, 0, 0, .null, []), 0, 0),
  (153, (.goto 9, 156, 162, 0, .null, []), 0, 0),
  (156, (.aload_n 0, 157, 0, 0, .null, []), 0, 0),
  (157, (.getfield 32, 160, 5, 21, .null, []), 4, 113),
  (160, (.iload_n 2, 161, 2, 0, .null, []), 0, 0),
  (161, (.iaload, 162, 0, 0, .null, []), 0, 0),
  (162, (.iastore, 163, 0, 0, .null, []), 0, 0),
  (163, (.iinc 3 1, 166, 3, 0, .int 1, []), 0, 0),
  (166, (.goto (-97), 169, 69, 0, .null, []), 0, 0),
  (169, (.iinc 2 1, 172, 2, 0, .int 1, []), 0, 0),
  (172, (.goto (-127), 175, 45, 0, .null, []), 0, 0),
  (175, (.iload_n 1, 176, 1, 0, .null, []), 0, 0),
  (176, (.invokestatic 266, 179, 207, 1, .null, []), 5, 202),
  (179, (.aload_n 0, 180, 0, 0, .null, []), 0, 0),
  (180, (.getfield 32, 183, 5, 21, .null, []), 4, 113),
  (183, (.iload_n 1, 184, 1, 0, .null, []), 0, 0),
  (184, (.iaload, 185, 0, 0, .null, []), 0, 0),
  (185, (.isub, 186, 0, 0, .null, []), 0, 0),
  (186, (.ireturn, 187, 0, 0, .null, []), 0, 0)]
/-- ThreadBankModel.fewest()I -/
def qc_210 : List qm_E := [
  (0, (.aload_n 0, 1, 0, 0, .null, []), 0, 0),
  (1, (.invokevirtual 175, 4, 169, 0, .null, []), 5, 21),
  (4, (.aload_n 0, 5, 0, 0, .null, []), 0, 0),
  (5, (.getfield 13, 8, 5, 1, .null, []), 4, 93),
  (8, (.iconst 4, 9, 0, 0, .int 4, []), 0, 0),
  (9, (.iaload, 10, 0, 0, .null, []), 0, 0),
  (10, (.istore_n 1, 11, 1, 0, .null, []), 0, 0),
  (11, (.iconst 0, 12, 0, 0, .int 0, []), 0, 0),
  (12, (.istore_n 2, 13, 2, 0, .null, []), 0, 0),
  (13, (.iconst 3, 14, 0, 0, .int 3, []), 0, 0),
  (14, (.istore_n 3, 15, 3, 0, .null, []), 0, 0),
  (15, (.iload_n 3, 16, 3, 0, .null, []), 0, 0),
  (16, (.ifCond .le 90, 19, 106, 0, .null, []), 0, 0),
  (19, (.iconst 0, 20, 0, 0, .int 0, []), 0, 0),
  (20, (.istore 4, 22, 4, 0, .null, []), 0, 0),
  (22, (.iload 4, 24, 4, 0, .null, []), 0, 0),
  (24, (.aload_n 0, 25, 0, 0, .null, []), 0, 0),
  (25, (.getfield 61, 28, 5, 3, .null, []), 4, 95),
  (28, (.if_icmp .ge 72, 31, 100, 0, .null, []), 0, 0),
  (31, (.iconst 0, 32, 0, 0, .int 0, []), 0, 0),
  (32, (.istore 5, 34, 5, 0, .null, []), 0, 0),
  (34, (.iload 5, 36, 5, 0, .null, []), 0, 0),
  (36, (.iconst 5, 37, 0, 0, .int 5, []), 0, 0),
  (37, (.if_icmp .ge 57, 40, 94, 0, .null, []), 0, 0),
  (40, (.aload_n 0, 41, 0, 0, .null, []), 0, 0),
  (41, (.bipush 10, 43, 0, 0, .int 10, []), 0, 0),
  (43, (.iload 4, 45, 4, 0, .null, []), 0, 0),
  (45, (.imul, 46, 0, 0, .null, []), 0, 0),
  (46, (.iload 5, 48, 5, 0, .null, []), 0, 0),
  (48, (.iadd, 49, 0, 0, .null, []), 0, 0),
  (49, (.invokevirtual 165, 52, 173, 1, .null, []), 5, 29),
  (52, (.iload_n 3, 53, 3, 0, .null, []), 0, 0),
  (53, (.if_icmp .ne 11, 56, 64, 0, .null, []), 0, 0),
  (56, (.iload_n 1, 57, 1, 0, .null, []), 0, 0),
  (57, (.ifCond .le 7, 60, 64, 0, .null, []), 0, 0),
  (60, (.iconst 1, 61, 0, 0, .int 1, []), 0, 0),
  (61, (.goto 4, 64, 65, 0, .null, []), 0, 0),
  (64, (.iconst 0, 65, 0, 0, .int 0, []), 0, 0),
  (65, (.istore 6, 67, 6, 0, .null, []), 0, 0),
  (67, (.iload_n 2, 68, 2, 0, .null, []), 0, 0),
  (68, (.iload 6, 70, 6, 0, .null, []), 0, 0),
  (70, (.invokestatic 141, 73, 142, 1, .null, []), 5, 7),
  (73, (.iadd, 74, 0, 0, .null, []), 0, 0),
  (74, (.istore_n 2, 75, 2, 0, .null, []), 0, 0),
  (75, (.iload_n 1, 76, 1, 0, .null, []), 0, 0),
  (76, (.iload 6, 78, 6, 0, .null, []), 0, 0),
  (78, (.ifCond .eq 7, 81, 85, 0, .null, []), 0, 0),
  (81, (.iload_n 3, 82, 3, 0, .null, []), 0, 0),
  (82, (.goto 4, 85, 86, 0, .null, []), 0, 0),
  (85, (.iconst 0, 86, 0, 0, .int 0, []), 0, 0),
  (86, (.isub, 87, 0, 0, .null, []), 0, 0),
  (87, (.istore_n 1, 88, 1, 0, .null, []), 0, 0),
  (88, (.iinc 5 1, 91, 5, 0, .int 1, []), 0, 0),
  (91, (.goto (-57), 94, 34, 0, .null, []), 0, 0),
  (94, (.iinc 4 1, 97, 4, 0, .int 1, []), 0, 0),
  (97, (.goto (-75), 100, 22, 0, .null, []), 0, 0),
  (100, (.iinc 3 (-1), 103, 3, 0, .int (-1 : Int32), []), 0, 0),
  (103, (.goto (-88), 106, 15, 0, .null, []), 0, 0),
  (106, (.iload_n 2, 107, 2, 0, .null, []), 0, 0),
  (107, (.ireturn, 108, 0, 0, .null, []), 0, 0)]
/-- ThreadBankModel.place()I -/
def qc_211 : List qm_E := [
  (0, (.aload_n 0, 1, 0, 0, .null, []), 0, 0),
  (1, (.invokevirtual 175, 4, 169, 0, .null, []), 5, 21),
  (4, (.ldc 233, 6, 0, 0, .int 1000000, []), 5, 181),
  (6, (.istore_n 1, 7, 1, 0, .null, []), 0, 0),
  (7, (.bipush (-4), 9, 0, 0, .int (-4 : Int32), []), 0, 0),
  (9, (.istore_n 2, 10, 2, 0, .null, []), 0, 0),
  (10, (.iconst 0, 11, 0, 0, .int 0, []), 0, 0),
  (11, (.istore_n 3, 12, 3, 0, .null, []), 0, 0),
  (12, (.iload_n 3, 13, 3, 0, .null, []), 0, 0),
  (13, (.aload_n 0, 14, 0, 0, .null, []), 0, 0),
  (14, (.getfield 61, 17, 5, 3, .null, []), 4, 95),
  (17, (.if_icmp .ge 64, 20, 81, 0, .null, []), 0, 0),
  (20, (.aload_n 0, 21, 0, 0, .null, []), 0, 0),
  (21, (.iload_n 3, 22, 3, 0, .null, []), 0, 0),
  (22, (.invokevirtual 187, 25, 175, 1, .null, []), 5, 65),
  (25, (.aload_n 0, 26, 0, 0, .null, []), 0, 0),
  (26, (.iload_n 3, 27, 3, 0, .null, []), 0, 0),
  (27, (.invokevirtual 178, 30, 176, 1, .null, []), 5, 25),
  (30, (.if_icmp .ge 16, 33, 46, 0, .null, []), 0, 0),
  (33, (.aload_n 0, 34, 0, 0, .null, []), 0, 0),
  (34, (.iload_n 3, 35, 3, 0, .null, []), 0, 0),
  (35, (.invokevirtual 187, 38, 175, 1, .null, []), 5, 65),
  (38, (.iload_n 1, 39, 1, 0, .null, []), 0, 0),
  (39, (.if_icmp .ge 7, 42, 46, 0, .null, []), 0, 0),
  (42, (.iconst 1, 43, 0, 0, .int 1, []), 0, 0),
  (43, (.goto 4, 46, 47, 0, .null, []), 0, 0),
  (46, (.iconst 0, 47, 0, 0, .int 0, []), 0, 0),
  (47, (.istore 4, 49, 4, 0, .null, []), 0, 0),
  (49, (.iload 4, 51, 4, 0, .null, []), 0, 0),
  (51, (.ifCond .eq 7, 54, 58, 0, .null, []), 0, 0),
  (54, (.iload_n 3, 55, 3, 0, .null, []), 0, 0),
  (55, (.goto 4, 58, 59, 0, .null, []), 0, 0),
  (58, (.iload_n 2, 59, 2, 0, .null, []), 0, 0),
  (59, (.istore_n 2, 60, 2, 0, .null, []), 0, 0),
  (60, (.iload 4, 62, 4, 0, .null, []), 0, 0),
  (62, (.ifCond .eq 11, 65, 73, 0, .null, []), 0, 0),
  (65, (.aload_n 0, 66, 0, 0, .null, []), 0, 0),
  (66, (.iload_n 3, 67, 3, 0, .null, []), 0, 0),
  (67, (.invokevirtual 187, 70, 175, 1, .null, []), 5, 65),
  (70, (.goto 4, 73, 74, 0, .null, []), 0, 0),
  (73, (.iload_n 1, 74, 1, 0, .null, []), 0, 0),
  (74, (.istore_n 1, 75, 1, 0, .null, []), 0, 0),
  (75, (.iinc 3 1, 78, 3, 0, .int 1, []), 0, 0),
  (78, (.goto (-66), 81, 12, 0, .null, []), 0, 0),
  (81, (.iconst 0, 82, 0, 0, .int 0, []), 0, 0),
  (82, (.istore_n 3, 83, 3, 0, .null, []), 0, 0),
  (83, (.bipush (-4), 85, 0, 0, .int (-4 : Int32), []), 0, 0),
  (85, (.istore 4, 87, 4, 0, .null, []), 0, 0),
  (87, (.iconst 0, 88, 0, 0, .int 0, []), 0, 0),
  (88, (.istore 5, 90, 5, 0, .null, []), 0, 0),
  (90, (.iload 5, 92, 5, 0, .null, []), 0, 0),
  (92, (.iconst 5, 93, 0, 0, .int 5, []), 0, 0),
  (93, (.if_icmp .ge 73, 96, 166, 0, .null, []), 0, 0),
  (96, (.iload_n 2, 97, 2, 0, .null, []), 0, 0),
  (97, (.bipush (-4), 99, 0, 0, .int (-4 : Int32), []), 0, 0),
  (99, (.if_icmp .eq 67, 102, 166, 0, .null, []), 0, 0),
  (102, (.aload_n 0, 103, 0, 0, .null, []), 0, 0),
  (103, (.bipush 10, 105, 0, 0, .int 10, []), 0, 0),
  (105, (.iload_n 2, 106, 2, 0, .null, []), 0, 0),
  (106, (.imul, 107, 0, 0, .null, []), 0, 0),
  (107, (.iload 5, 109, 5, 0, .null, []), 0, 0),
  (109, (.iadd, 110, 0, 0, .null, []), 0, 0),
  (110, (.invokevirtual 165, 113, 173, 1, .null, []), 5, 29),
  (113, (.aload_n 0, 114, 0, 0, .null, []), 0, 0),
  (114, (.bipush 10, 116, 0, 0, .int 10, []), 0, 0),
  (116, (.iload_n 2, 117, 2, 0, .null, []), 0, 0),
  (117, (.imul, 118, 0, 0, .null, []), 0, 0),
  (118, (.iload 5, 120, 5, 0, .null, []), 0, 0),
  (120, (.iadd, 121, 0, 0, .null, []), 0, 0),
  (121, (.invokevirtual 181, 124, 174, 1, .null, []), 5, 33),
  (124, (.isub, 125, 0, 0, .null, []), 0, 0),
  (125, (.istore 6, 127, 6, 0, .null, []), 0, 0),
  (127, (.iload 6, 129, 6, 0, .null, []), 0, 0),
  (129, (.iload_n 3, 130, 3, 0, .null, []), 0, 0),
  (130, (.if_icmp .le 13, 133, 143, 0, .null, []), 0, 0),
  (133, (.bipush 10, 135, 0, 0, .int 10, []), 0, 0),
  (135, (.iload_n 2, 136, 2, 0, .null, []), 0, 0),
  (136, (.imul, 137, 0, 0, .null, []), 0, 0),
  (137, (.iload 5, 139, 5, 0, .null, []), 0, 0),
  (139, (.iadd, 140, 0, 0, .null, []), 0, 0),
  (140, (.goto 5, 143, 145, 0, .null, []), 0, 0),
  (143, (.iload 4, 145, 4, 0, .null, []), 0, 0),
  (145, (.istore 4, 147, 4, 0, .null, []), 0, 0),
  (147, (.iload 6, 149, 6, 0, .null, []), 0, 0),
  (149, (.iload_n 3, 150, 3, 0, .null, []), 0, 0),
  (150, (.if_icmp .le 8, 153, 158, 0, .null, []), 0, 0),
  (153, (.iload 6, 155, 6, 0, .null, []), 0, 0),
  (155, (.goto 4, 158, 159, 0, .null, []), 0, 0),
  (158, (.iload_n 3, 159, 3, 0, .null, []), 0, 0),
  (159, (.istore_n 3, 160, 3, 0, .null, []), 0, 0),
  (160, (.iinc 5 1, 163, 5, 0, .int 1, []), 0, 0),
  (163, (.goto (-73), 166, 90, 0, .null, []), 0, 0),
  (166, (.iload 4, 168, 4, 0, .null, []), 0, 0),
  (168, (.ireturn, 169, 0, 0, .null, []), 0, 0)]
/-- ThreadBankModel.handsOf(I)I -/
def qc_212 : List qm_E := [
  (0, (.iconst 0, 1, 0, 0, .int 0, []), 0, 0),
  (1, (.istore_n 2, 2, 2, 0, .null, []), 0, 0),
  (2, (.iconst 0, 3, 0, 0, .int 0, []), 0, 0),
  (3, (.istore_n 3, 4, 3, 0, .null, []), 0, 0),
  (4, (.iload_n 3, 5, 3, 0, .null, []), 0, 0),
  (5, (.aload_n 0, 6, 0, 0, .null, []), 0, 0),
  (6, (.getfield 13, 9, 5, 1, .null, []), 4, 93),
  (9, (.iconst 4, 10, 0, 0, .int 4, []), 0, 0),
  (10, (.iaload, 11, 0, 0, .null, []), 0, 0),
  (11, (.if_icmp .ge 27, 14, 38, 0, .null, []), 0, 0),
  (14, (.iload_n 2, 15, 2, 0, .null, []), 0, 0),
  (15, (.aload_n 0, 16, 0, 0, .null, []), 0, 0),
  (16, (.iload_n 1, 17, 1, 0, .null, []), 0, 0),
  (17, (.iload_n 3, 18, 3, 0, .null, []), 0, 0),
  (18, (.invokevirtual 168, 21, 178, 2, .null, []), 5, 57),
  (21, (.invokestatic 141, 24, 142, 1, .null, []), 5, 7),
  (24, (.aload_n 0, 25, 0, 0, .null, []), 0, 0),
  (25, (.iload_n 3, 26, 3, 0, .null, []), 0, 0),
  (26, (.invokevirtual 162, 29, 172, 1, .null, []), 5, 61),
  (29, (.ishl, 30, 0, 0, .null, []), 0, 0),
  (30, (.ior, 31, 0, 0, .null, []), 0, 0),
  (31, (.istore_n 2, 32, 2, 0, .null, []), 0, 0),
  (32, (.iinc 3 1, 35, 3, 0, .int 1, []), 0, 0),
  (35, (.goto (-31), 38, 4, 0, .null, []), 0, 0),
  (38, (.iload_n 2, 39, 2, 0, .null, []), 0, 0),
  (39, (.ireturn, 40, 0, 0, .null, []), 0, 0)]
/-- ThreadBankModel.isFirst(I)Z -/
def qc_213 : List qm_E := [
  (0, (.iconst 1, 1, 0, 0, .int 1, []), 0, 0),
  (1, (.istore_n 2, 2, 2, 0, .null, []), 0, 0),
  (2, (.iconst 0, 3, 0, 0, .int 0, []), 0, 0),
  (3, (.istore_n 3, 4, 3, 0, .null, []), 0, 0),
  (4, (.iload_n 3, 5, 3, 0, .null, []), 0, 0),
  (5, (.iload_n 1, 6, 1, 0, .null, []), 0, 0),
  (6, (.if_icmp .ge 28, 9, 34, 0, .null, []), 0, 0),
  (9, (.iload_n 2, 10, 2, 0, .null, []), 0, 0),
  (10, (.ifCond .eq 16, 13, 26, 0, .null, []), 0, 0),
  (13, (.aload_n 0, 14, 0, 0, .null, []), 0, 0),
  (14, (.iload_n 1, 15, 1, 0, .null, []), 0, 0),
  (15, (.iload_n 3, 16, 3, 0, .null, []), 0, 0),
  (16, (.invokevirtual 168, 19, 178, 2, .null, []), 5, 57),
  (19, (.ifCond .ne 7, 22, 26, 0, .null, []), 0, 0),
  (22, (.iconst 1, 23, 0, 0, .int 1, []), 0, 0),
  (23, (.goto 4, 26, 27, 0, .null, []), 0, 0),
  (26, (.iconst 0, 27, 0, 0, .int 0, []), 0, 0),
  (27, (.istore_n 2, 28, 2, 0, .null, []), 0, 0),
  (28, (.iinc 3 1, 31, 3, 0, .int 1, []), 0, 0),
  (31, (.goto (-27), 34, 4, 0, .null, []), 0, 0),
  (34, (.iload_n 2, 35, 2, 0, .null, []), 0, 0),
  (35, (.ireturn, 36, 0, 0, .null, []), 0, 0)]
/-- ThreadBankModel.atRisk(I)I -/
def qc_214 : List qm_E := [
  (0, (.iconst 0, 1, 0, 0, .int 0, []), 0, 0),
  (1, (.istore_n 2, 2, 2, 0, .null, []), 0, 0),
  (2, (.iconst 0, 3, 0, 0, .int 0, []), 0, 0),
  (3, (.istore_n 3, 4, 3, 0, .null, []), 0, 0),
  (4, (.iload_n 3, 5, 3, 0, .null, []), 0, 0),
  (5, (.aload_n 0, 6, 0, 0, .null, []), 0, 0),
  (6, (.getfield 13, 9, 5, 1, .null, []), 4, 93),
  (9, (.iconst 4, 10, 0, 0, .int 4, []), 0, 0),
  (10, (.iaload, 11, 0, 0, .null, []), 0, 0),
  (11, (.if_icmp .ge 39, 14, 50, 0, .null, []), 0, 0),
  (14, (.iload_n 2, 15, 2, 0, .null, []), 0, 0),
  (15, (.aload_n 0, 16, 0, 0, .null, []), 0, 0),
  (16, (.iload_n 3, 17, 3, 0, .null, []), 0, 0),
  (17, (.invokevirtual 269, 20, 213, 1, .null, []), 5, 221),
  (20, (.ifCond .eq 18, 23, 38, 0, .null, []), 0, 0),
  (23, (.aload_n 0, 24, 0, 0, .null, []), 0, 0),
  (24, (.iload_n 3, 25, 3, 0, .null, []), 0, 0),
  (25, (.invokevirtual 272, 28, 212, 1, .null, []), 5, 225),
  (28, (.iconst 1, 29, 0, 0, .int 1, []), 0, 0),
  (29, (.iload_n 1, 30, 1, 0, .null, []), 0, 0),
  (30, (.ishl, 31, 0, 0, .null, []), 0, 0),
  (31, (.if_icmp .ne 7, 34, 38, 0, .null, []), 0, 0),
  (34, (.iconst 1, 35, 0, 0, .int 1, []), 0, 0),
  (35, (.goto 4, 38, 39, 0, .null, []), 0, 0),
  (38, (.iconst 0, 39, 0, 0, .int 0, []), 0, 0),
  (39, (.invokestatic 141, 42, 142, 1, .null, []), 5, 7),
  (42, (.iadd, 43, 0, 0, .null, []), 0, 0),
  (43, (.istore_n 2, 44, 2, 0, .null, []), 0, 0),
  (44, (.iinc 3 1, 47, 3, 0, .int 1, []), 0, 0),
  (47, (.goto (-43), 50, 4, 0, .null, []), 0, 0),
  (50, (.iload_n 2, 51, 2, 0, .null, []), 0, 0),
  (51, (.ireturn, 52, 0, 0, .null, []), 0, 0)]
/-- ThreadBankModel.risk(I)I -/
def qc_215 : List qm_E := [
  (0, (.aload_n 0, 1, 0, 0, .null, []), 0, 0),
  (1, (.iload_n 1, 2, 1, 0, .null, []), 0, 0),
  (2, (.invokevirtual 155, 5, 164, 1, .null, []), 5, 45),
  (5, (.ifCond .ne 5, 8, 10, 0, .null, []), 0, 0),
  (8, (.iconst (-1), 9, 0, 0, .int (-1 : Int32), []), 0, 0),
  (9, (.ireturn, 10, 0, 0, .null, []), 0, 0),
  (10, (.aload_n 0, 11, 0, 0, .null, []), 0, 0),
  (11, (.invokevirtual 175, 14, 169, 0, .null, []), 5, 21),
  (14, (.aload_n 0, 15, 0, 0, .null, []), 0, 0),
  (15, (.iload_n 1, 16, 1, 0, .null, []), 0, 0),
  (16, (.invokevirtual 275, 19, 214, 1, .null, []), 5, 217),
  (19, (.ireturn, 20, 0, 0, .null, []), 0, 0)]
/-- ThreadBankModel.copies()I -/
def qc_216 : List qm_E := [
  (0, (.aload_n 0, 1, 0, 0, .null, []), 0, 0),
  (1, (.invokevirtual 175, 4, 169, 0, .null, []), 5, 21),
  (4, (.iconst 0, 5, 0, 0, .int 0, []), 0, 0),
  (5, (.istore_n 1, 6, 1, 0, .null, []), 0, 0),
  (6, (.iconst 0, 7, 0, 0, .int 0, []), 0, 0),
  (7, (.istore_n 2, 8, 2, 0, .null, []), 0, 0),
  (8, (.iconst 0, 9, 0, 0, .int 0, []), 0, 0),
  (9, (.istore_n 3, 10, 3, 0, .null, []), 0, 0),
  (10, (.iload_n 3, 11, 3, 0, .null, []), 0, 0),
  (11, (.aload_n 0, 12, 0, 0, .null, []), 0, 0),
  (12, (.getfield 61, 15, 5, 3, .null, []), 4, 95),
  (15, (.if_icmp .ge 31, 18, 46, 0, .null, []), 0, 0),
  (18, (.iload_n 1, 19, 1, 0, .null, []), 0, 0),
  (19, (.aload_n 0, 20, 0, 0, .null, []), 0, 0),
  (20, (.iload_n 3, 21, 3, 0, .null, []), 0, 0),
  (21, (.invokevirtual 275, 24, 214, 1, .null, []), 5, 217),
  (24, (.iadd, 25, 0, 0, .null, []), 0, 0),
  (25, (.istore_n 1, 26, 1, 0, .null, []), 0, 0),
  (26, (.iload_n 2, 27, 2, 0, .null, []), 0, 0),
  (27, (.aload_n 0, 28, 0, 0, .null, []), 0, 0),
  (28, (.iload_n 3, 29, 3, 0, .null, []), 0, 0),
  (29, (.invokevirtual 178, 32, 176, 1, .null, []), 5, 25),
  (32, (.aload_n 0, 33, 0, 0, .null, []), 0, 0),
  (33, (.iload_n 3, 34, 3, 0, .null, []), 0, 0),
  (34, (.invokevirtual 187, 37, 175, 1, .null, []), 5, 65),
  (37, (.isub, 38, 0, 0, .null, []), 0, 0),
  (38, (.iadd, 39, 0, 0, .null, []), 0, 0),
  (39, (.istore_n 2, 40, 2, 0, .null, []), 0, 0),
  (40, (.iinc 3 1, 43, 3, 0, .int 1, []), 0, 0),
  (43, (.goto (-33), 46, 10, 0, .null, []), 0, 0),
  (46, (.iload_n 1, 47, 1, 0, .null, []), 0, 0),
  (47, (.iload_n 2, 48, 2, 0, .null, []), 0, 0),
  (48, (.if_icmp .gt 20, 51, 68, 0, .null, []), 0, 0),
  (51, (.aload_n 0, 52, 0, 0, .null, []), 0, 0),
  (52, (.getfield 13, 55, 5, 1, .null, []), 4, 93),
  (55, (.iconst 4, 56, 0, 0, .int 4, []), 0, 0),
  (56, (.iaload, 57, 0, 0, .null, []), 0, 0),
  (57, (.iload_n 1, 58, 1, 0, .null, []), 0, 0),
  (58, (.iadd, 59, 0, 0, .null, []), 0, 0),
  (59, (.bipush 10, 61, 0, 0, .int 10, []), 0, 0),
  (61, (.if_icmp .gt 7, 64, 68, 0, .null, []), 0, 0),
  (64, (.iconst 1, 65, 0, 0, .int 1, []), 0, 0),
  (65, (.goto 4, 68, 69, 0, .null, []), 0, 0),
  (68, (.iconst 0, 69, 0, 0, .int 0, []), 0, 0),
  (69, (.istore_n 3, 70, 3, 0, .null, []), 0, 0),
  (70, (.iconst 0, 71, 0, 0, .int 0, []), 0, 0),
  (71, (.istore 4, 73, 4, 0, .null, []), 0, 0),
  (73, (.iload 4, 75, 4, 0, .null, []), 0, 0),
  (75, (.aload_n 0, 76, 0, 0, .null, []), 0, 0),
  (76, (.getfield 61, 79, 5, 3, .null, []), 4, 95),
  (79, (.if_icmp .ge 43, 82, 122, 0, .null, []), 0, 0),
  (82, (.iload_n 3, 83, 3, 0, .null, []), 0, 0),
  (83, (.ifCond .eq 31, 86, 114, 0, .null, []), 0, 0),
  (86, (.aload_n 0, 87, 0, 0, .null, []), 0, 0),
  (87, (.iload 4, 89, 4, 0, .null, []), 0, 0),
  (89, (.invokevirtual 275, 92, 214, 1, .null, []), 5, 217),
  (92, (.iload_n 2, 93, 2, 0, .null, []), 0, 0),
  (93, (.aload_n 0, 94, 0, 0, .null, []), 0, 0),
  (94, (.iload 4, 96, 4, 0, .null, []), 0, 0),
  (96, (.invokevirtual 178, 99, 176, 1, .null, []), 5, 25),
  (99, (.aload_n 0, 100, 0, 0, .null, []), 0, 0),
  (100, (.iload 4, 102, 4, 0, .null, []), 0, 0),
  (102, (.invokevirtual 187, 105, 175, 1, .null, []), 5, 65),
  (105, (.isub, 106, 0, 0, .null, []), 0, 0),
  (106, (.isub, 107, 0, 0, .null, []), 0, 0),
  (107, (.if_icmp .gt 7, 110, 114, 0, .null, []), 0, 0),
  (110, (.iconst 1, 111, 0, 0, .int 1, []), 0, 0),
  (111, (.goto 4, 114, 115, 0, .null, []), 0, 0),
  (114, (.iconst 0, 115, 0, 0, .int 0, []), 0, 0),
  (115, (.istore_n 3, 116, 3, 0, .null, []), 0, 0),
  (116, (.iinc 4 1, 119, 4, 0, .int 1, []), 0, 0),
  (119, (.goto (-46), 122, 73, 0, .null, []), 0, 0),
  (122, (.iload_n 3, 123, 3, 0, .null, []), 0, 0),
  (123, (.ifCond .eq 7, 126, 130, 0, .null, []), 0, 0),
  (126, (.iload_n 1, 127, 1, 0, .null, []), 0, 0),
  (127, (.goto 5, 130, 132, 0, .null, []), 0, 0),
  (130, (.bipush (-4), 132, 0, 0, .int (-4 : Int32), []), 0, 0),
  (132, (.ireturn, 133, 0, 0, .null, []), 0, 0)]
/-- ThreadBankModel.spare(I)I -/
def qc_217 : List qm_E := [
  (0, (.iload_n 1, 1, 1, 0, .null, []), 0, 0),
  (1, (.invokestatic 196, 4, 168, 1, .null, []), 5, 81),
  (4, (.ifCond .ne 5, 7, 9, 0, .null, []), 0, 0),
  (7, (.iconst (-1), 8, 0, 0, .int (-1 : Int32), []), 0, 0),
  (8, (.ireturn, 9, 0, 0, .null, []), 0, 0),
  (9, (.aload_n 0, 10, 0, 0, .null, []), 0, 0),
  (10, (.invokevirtual 175, 13, 169, 0, .null, []), 5, 21),
  (13, (.iconst (-1), 14, 0, 0, .int (-1 : Int32), []), 0, 0),
  (14, (.istore_n 2, 15, 2, 0, .null, []), 0, 0),
  (15, (.iconst 0, 16, 0, 0, .int 0, []), 0, 0),
  (16, (.istore_n 3, 17, 3, 0, .null, []), 0, 0),
  (17, (.iconst 0, 18, 0, 0, .int 0, []), 0, 0),
  (18, (.istore 4, 20, 4, 0, .null, []), 0, 0),
  (20, (.iload 4, 22, 4, 0, .null, []), 0, 0),
  (22, (.iconst 1, 23, 0, 0, .int 1, []), 0, 0),
  (23, (.aload_n 0, 24, 0, 0, .null, []), 0, 0),
  (24, (.getfield 61, 27, 5, 3, .null, []), 4, 95),
  (27, (.ishl, 28, 0, 0, .null, []), 0, 0),
  (28, (.if_icmp .ge 98, 31, 126, 0, .null, []), 0, 0),
  (31, (.iload 4, 33, 4, 0, .null, []), 0, 0),
  (33, (.invokestatic 266, 36, 207, 1, .null, []), 5, 202),
  (36, (.iload_n 2, 37, 2, 0, .null, []), 0, 0),
  (37, (.if_icmp .le 7, 40, 44, 0, .null, []), 0, 0),
  (40, (.iconst 1, 41, 0, 0, .int 1, []), 0, 0),
  (41, (.goto 4, 44, 45, 0, .null, []), 0, 0),
  (44, (.iconst 0, 45, 0, 0, .int 0, []), 0, 0),
  (45, (.istore 5, 47, 5, 0, .null, []), 0, 0),
  (47, (.iconst 0, 48, 0, 0, .int 0, []), 0, 0),
  (48, (.istore 6, 50, 6, 0, .null, []), 0, 0),
  (50, (.iload 6, 52, 6, 0, .null, []), 0, 0),
  (52, (.aload_n 0, 53, 0, 0, .null, []), 0, 0),
  (53, (.getfield 13, 56, 5, 1, .null, []), 4, 93),
  (56, (.iconst 4, 57, 0, 0, .int 4, []), 0, 0),
  (57, (.iaload, 58, 0, 0, .null, []), 0, 0),
  (58, (.if_icmp .ge 35, 61, 93, 0, .null, []), 0, 0),
  (61, (.iload 5, 63, 5, 0, .null, []), 0, 0),
  (63, (.ifCond .eq 21, 66, 84, 0, .null, []), 0, 0),
  (66, (.aload_n 0, 67, 0, 0, .null, []), 0, 0),
  (67, (.iload 6, 69, 6, 0, .null, []), 0, 0),
  (69, (.invokevirtual 272, 72, 212, 1, .null, []), 5, 225),
  (72, (.iload 4, 74, 4, 0, .null, []), 0, 0),
  (74, (.iconst (-1), 75, 0, 0, .int (-1 : Int32), []), 0, 0),
  (75, (.ixor, 76, 0, 0, .null, []), 0, 0),
  (76, (.iand, 77, 0, 0, .null, []), 0, 0),
  (77, (.ifCond .eq 7, 80, 84, 0, .null, []), 0, 0),
  (80, (.iconst 1, 81, 0, 0, .int 1, []), 0, 0),
  (81, (.goto 4, 84, 85, 0, .null, []), 0, 0),
  (84, (.iconst 0, 85, 0, 0, .int 0, []), 0, 0),
  (85, (.istore 5, 87, 5, 0, .null, []), 0, 0),
  (87, (.iinc 6 1, 90, 6, 0, .int 1, []), 0, 0),
  (90, (.goto (-40), 93, 50, 0, .null, []), 0, 0),
  (93, (.iload 5, 95, 5, 0, .null, []), 0, 0),
  (95, (.ifCond .eq 8, 98, 103, 0, .null, []), 0, 0),
  (98, (.iload 4, 100, 4, 0, .null, []), 0, 0),
  (100, (.goto 4, 103, 104, 0, .null, []), 0, 0),
  (103, (.iload_n 3, 104, 3, 0, .null, []), 0, 0),
  (104, (.istore_n 3, 105, 3, 0, .null, []), 0, 0),
  (105, (.iload 5, 107, 5, 0, .null, []), 0, 0),
  (107, (.ifCond .eq 11, 110, 118, 0, .null, []), 0, 0),
  (110, (.iload 4, 112, 4, 0, .null, []), 0, 0),
  (112, (.invokestatic 266, 115, 207, 1, .null, []), 5, 202),
  (115, (.goto 4, 118, 119, 0, .null, []), 0, 0),
  (118, (.iload_n 2, 119, 2, 0, .null, []), 0, 0),
  (119, (.istore_n 2, 120, 2, 0, .null, []), 0, 0),
  (120, (.iinc 4 1, 123, 4, 0, .int 1, []), 0, 0),
  (123, (.goto (-103), 126, 20, 0, .null, []), 0, 0),
  (126, (.iload_n 1, 127, 1, 0, .null, []), 0, 0),
  (127, (.ifCond .ne 7, 130, 134, 0, .null, []), 0, 0),
  (130, (.iload_n 2, 131, 2, 0, .null, []), 0, 0),
  (131, (.goto 4, 134, 135, 0, .null, []), 0, 0),
  (134, (.iload_n 3, 135, 3, 0, .null, []), 0, 0),
  (135, (.ireturn, 136, 0, 0, .null, []), 0, 0)]
/-- ThreadBankModel.quarrel(I)I -/
def qc_218 : List qm_E := [
  (0, (.iload_n 1, 1, 1, 0, .null, []), 0, 0),
  (1, (.invokestatic 196, 4, 168, 1, .null, []), 5, 81),
  (4, (.ifCond .ne 5, 7, 9, 0, .null, []), 0, 0),
  (7, (.iconst (-1), 8, 0, 0, .int (-1 : Int32), []), 0, 0),
  (8, (.ireturn, 9, 0, 0, .null, []), 0, 0),
  (9, (.aload_n 0, 10, 0, 0, .null, []), 0, 0),
  (10, (.invokevirtual 175, 13, 169, 0, .null, []), 5, 21),
  (13, (.iconst 0, 14, 0, 0, .int 0, []), 0, 0),
  (14, (.istore_n 2, 15, 2, 0, .null, []), 0, 0),
  (15, (.bipush (-4), 17, 0, 0, .int (-4 : Int32), []), 0, 0),
  (17, (.istore_n 3, 18, 3, 0, .null, []), 0, 0),
  (18, (.iconst 0, 19, 0, 0, .int 0, []), 0, 0),
  (19, (.istore 4, 21, 4, 0, .null, []), 0, 0),
  (21, (.iload 4, 23, 4, 0, .null, []), 0, 0),
  (23, (.aload_n 0, 24, 0, 0, .null, []), 0, 0),
  (24, (.getfield 13, 27, 5, 1, .null, []), 4, 93),
  (27, (.iconst 4, 28, 0, 0, .int 4, []), 0, 0),
  (28, (.iaload, 29, 0, 0, .null, []), 0, 0),
  (29, (.if_icmp .ge 141, 32, 170, 0, .null, []), 0, 0),
  (32, (.iload 4, 34, 4, 0, .null, []), 0, 0),
  (34, (.iconst 1, 35, 0, 0, .int 1, []), 0, 0),
  (35, (.iadd, 36, 0, 0, .null, []), 0, 0),
  (36, (.istore 5, 38, 5, 0, .null, []), 0, 0),
  (38, (.iload 5, 40, 5, 0, .null, []), 0, 0),
  (40, (.aload_n 0, 41, 0, 0, .null, []), 0, 0),
  (41, (.getfield 13, 44, 5, 1, .null, []), 4, 93),
  (44, (.iconst 4, 45, 0, 0, .int 4, []), 0, 0),
  (45, (.iaload, 46, 0, 0, .null, []), 0, 0),
  (46, (.if_icmp .ge 118, 49, 164, 0, .null, []), 0, 0),
  (49, (.aload_n 0, 50, 0, 0, .null, []), 0, 0),
  (50, (.iload 4, 52, 4, 0, .null, []), 0, 0),
  (52, (.invokevirtual 162, 55, 172, 1, .null, []), 5, 61),
  (55, (.aload_n 0, 56, 0, 0, .null, []), 0, 0),
  (56, (.iload 5, 58, 5, 0, .null, []), 0, 0),
  (58, (.invokevirtual 162, 61, 172, 1, .null, []), 5, 61),
  (61, (.if_icmp .eq 64, 64, 125, 0, .null, []), 0, 0),
  (64, (.aload_n 0, 65, 0, 0, .null, []), 0, 0),
  (65, (.iload 4, 67, 4, 0, .null, []), 0, 0),
  (67, (.iconst 1, 68, 0, 0, .int 1, []), 0, 0),
  (68, (.invokevirtual 159, 71, 171, 2, .null, []), 5, 37),
  (71, (.aload_n 0, 72, 0, 0, .null, []), 0, 0),
  (72, (.iload 5, 74, 5, 0, .null, []), 0, 0),
  (74, (.iconst 1, 75, 0, 0, .int 1, []), 0, 0),
  (75, (.invokevirtual 159, 78, 171, 2, .null, []), 5, 37),
  (78, (.if_icmp .ne 47, 81, 125, 0, .null, []), 0, 0),
  (81, (.aload_n 0, 82, 0, 0, .null, []), 0, 0),
  (82, (.iload 4, 84, 4, 0, .null, []), 0, 0),
  (84, (.iconst 2, 85, 0, 0, .int 2, []), 0, 0),
  (85, (.invokevirtual 159, 88, 171, 2, .null, []), 5, 37),
  (88, (.bipush 10, 90, 0, 0, .int 10, []), 0, 0),
  (90, (.irem, 91, 0, 0, .null, []), 0, 0),
  (91, (.aload_n 0, 92, 0, 0, .null, []), 0, 0),
  (92, (.iload 5, 94, 5, 0, .null, []), 0, 0),
  (94, (.iconst 2, 95, 0, 0, .int 2, []), 0, 0),
  (95, (.invokevirtual 159, 98, 171, 2, .null, []), 5, 37),
  (98, (.bipush 10, 100, 0, 0, .int 10, []), 0, 0),
  (100, (.irem, 101, 0, 0, .null, []), 0, 0),
  (101, (.if_icmp .ne 24, 104, 125, 0, .null, []), 0, 0),
  (104, (.aload_n 0, 105, 0, 0, .null, []), 0, 0),
  (105, (.iload 4, 107, 4, 0, .null, []), 0, 0),
  (107, (.iconst 2, 108, 0, 0, .int 2, []), 0, 0),
  (108, (.invokevirtual 159, 111, 171, 2, .null, []), 5, 37),
  (111, (.aload_n 0, 112, 0, 0, .null, []), 0, 0),
  (112, (.iload 5, 114, 5, 0, .null, []), 0, 0),
  (114, (.iconst 2, 115, 0, 0, .int 2, []), 0, 0),
  (115, (.invokevirtual 159, 118, 171, 2, .null, []), 5, 37),
  (118, (.if_icmp .eq 7, 121, 125, 0, .null, []), 0, 0),
  (121, (.iconst 1, 122, 0, 0, .int 1, []), 0, 0),
  (122, (.goto 4, 125, 126, 0, .null, []), 0, 0),
  (125, (.iconst 0, 126, 0, 0, .int 0, []), 0, 0),
  (126, (.istore 6, 128, 6, 0, .null, []), 0, 0),
  (128, (.iload 6, 130, 6, 0, .null, []), 0, 0),
  (130, (.ifCond .eq 18, 133, 148, 0, .null, []), 0, 0),
  (133, (.iload_n 2, 134, 2, 0, .null, []), 0, 0),
  (134, (.ifCond .ne 14, 137, 148, 0, .null, []), 0, 0),
  (137, (.bipush 10, 139, 0, 0, .int 10, []), 0, 0),
  (139, (.iload 4, 141, 4, 0, .null, []), 0, 0),
  (141, (.imul, 142, 0, 0, .null, []), 0, 0),
  (142, (.iload 5, 144, 5, 0, .null, []), 0, 0),
  (144, (.iadd, 145, 0, 0, .null, []), 0, 0),
  (145, (.goto 4, 148, 149, 0, .null, []), 0, 0),
  (148, (.iload_n 3, 149, 3, 0, .null, []), 0, 0),
  (149, (.istore_n 3, 150, 3, 0, .null, []), 0, 0),
  (150, (.iload_n 2, 151, 2, 0, .null, []), 0, 0),
  (151, (.iload 6, 153, 6, 0, .null, []), 0, 0),
  (153, (.invokestatic 141, 156, 142, 1, .null, []), 5, 7),
  (156, (.iadd, 157, 0, 0, .null, []), 0, 0),
  (157, (.istore_n 2, 158, 2, 0, .null, []), 0, 0),
  (158, (.iinc 5 1, 161, 5, 0, .int 1, []), 0, 0),
  (161, (.goto (-123), 164, 38, 0, .null, []), 0, 0),
  (164, (.iinc 4 1, 167, 4, 0, .int 1, []), 0, 0),
  (167, (.goto (-146), 170, 21, 0, .null, []), 0, 0),
  (170, (.iload_n 1, 171, 1, 0, .null, []), 0, 0),
  (171, (.ifCond .ne 7, 174, 178, 0, .null, []), 0, 0),
  (174, (.iload_n 2, 175, 2, 0, .null, []), 0, 0),
  (175, (.goto 4, 178, 179, 0, .null, []), 0, 0),
  (178, (.iload_n 3, 179, 3, 0, .null, []), 0, 0),
  (179, (.ireturn, 180, 0, 0, .null, []), 0, 0)]
/-- ThreadBankModel.common(JJ)J -/
def qc_219 : List qm_E := [
  (0, (.lload_n 0, 1, 0, 0, .null, []), 0, 0),
  (1, (.lstore 4, 3, 4, 0, .null, []), 0, 0),
  (3, (.lload_n 2, 4, 2, 0, .null, []), 0, 0),
  (4, (.lstore 6, 6, 6, 0, .null, []), 0, 0),
  (6, (.lload 6, 8, 6, 0, .null, []), 0, 0),
  (8, (.lconst 0, 9, 0, 0, .long 0, []), 0, 0),
  (9, (.lcmp, 10, 0, 0, .null, []), 0, 0),
  (10, (.ifCond .eq 21, 13, 31, 0, .null, []), 0, 0),
  (13, (.lload 4, 15, 4, 0, .null, []), 0, 0),
  (15, (.lload 6, 17, 6, 0, .null, []), 0, 0),
  (17, (.lrem, 18, 0, 0, .null, []), 0, 0),
  (18, (.lstore 8, 20, 8, 0, .null, []), 0, 0),
  (20, (.lload 6, 22, 6, 0, .null, []), 0, 0),
  (22, (.lstore 4, 24, 4, 0, .null, []), 0, 0),
  (24, (.lload 8, 26, 8, 0, .null, []), 0, 0),
  (26, (.lstore 6, 28, 6, 0, .null, []), 0, 0),
  (28, (.goto (-22), 31, 6, 0, .null, []), 0, 0),
  (31, (.lload 4, 33, 4, 0, .null, []), 0, 0),
  (33, (.lreturn, 34, 0, 0, .null, []), 0, 0)]
/-- ThreadBankModel.told(JJI)J -/
def qc_220 : List qm_E := [
  (0, (.lload_n 2, 1, 2, 0, .null, []), 0, 0),
  (1, (.lload_n 0, 2, 0, 0, .null, []), 0, 0),
  (2, (.invokestatic 278, 5, 219, 2, .null, []), 6, 14),
  (5, (.lstore 5, 7, 5, 0, .null, []), 0, 0),
  (7, (.iload 4, 9, 4, 0, .null, []), 0, 0),
  (9, (.ifCond .ne 10, 12, 19, 0, .null, []), 0, 0),
  (12, (.lload_n 0, 13, 0, 0, .null, []), 0, 0),
  (13, (.lload 5, 15, 5, 0, .null, []), 0, 0),
  (15, (.ldiv, 16, 0, 0, .null, []), 0, 0),
  (16, (.goto 7, 19, 23, 0, .null, []), 0, 0),
  (19, (.lload_n 2, 20, 2, 0, .null, []), 0, 0),
  (20, (.lload 5, 22, 5, 0, .null, []), 0, 0),
  (22, (.ldiv, 23, 0, 0, .null, []), 0, 0),
  (23, (.lreturn, 24, 0, 0, .null, []), 0, 0)]
/-- ThreadBankModel.slipOf(II)I -/
def qc_221 : List qm_E := [
  (0, (.aload_n 0, 1, 0, 0, .null, []), 0, 0),
  (1, (.getfield 13, 4, 5, 1, .null, []), 4, 93),
  (4, (.iconst 0, 5, 0, 0, .int 0, []), 0, 0),
  (5, (.aload_n 0, 6, 0, 0, .null, []), 0, 0),
  (6, (.iload_n 1, 7, 1, 0, .null, []), 0, 0),
  (7, (.invokevirtual 162, 10, 172, 1, .null, []), 5, 61),
  (10, (.iadd, 11, 0, 0, .null, []), 0, 0),
  (11, (.iaload, 12, 0, 0, .null, []), 0, 0),
  (12, (.istore_n 3, 13, 3, 0, .null, []), 0, 0),
  (13, (.iload_n 3, 14, 3, 0, .null, []), 0, 0),
  (14, (.iconst 3, 15, 0, 0, .int 3, []), 0, 0),
  (15, (.if_icmp .ne 7, 18, 22, 0, .null, []), 0, 0),
  (18, (.iconst 0, 19, 0, 0, .int 0, []), 0, 0),
  (19, (.goto 15, 22, 34, 0, .null, []), 0, 0),
  (22, (.iload_n 3, 23, 3, 0, .null, []), 0, 0),
  (23, (.iconst 2, 24, 0, 0, .int 2, []), 0, 0),
  (24, (.if_icmp .ne 7, 27, 31, 0, .null, []), 0, 0),
  (27, (.iload_n 2, 28, 2, 0, .null, []), 0, 0),
  (28, (.goto 6, 31, 34, 0, .null, []), 0, 0),
  (31, (.iconst 2, 32, 0, 0, .int 2, []), 0, 0),
  (32, (.iload_n 2, 33, 2, 0, .null, []), 0, 0),
  (33, (.imul, 34, 0, 0, .null, []), 0, 0),
  (34, (.ireturn, 35, 0, 0, .null, []), 0, 0)]
/-- ThreadBankModel.kept(III)J -/
def qc_222 : List qm_E := [
  (0, (.iload_n 1, 1, 1, 0, .null, []), 0, 0),
  (1, (.i2l, 2, 0, 0, .null, []), 0, 0),
  (2, (.lconst 0, 3, 0, 0, .long 0, []), 0, 0),
  (3, (.ldc2_w 207, 6, 0, 0, .long 10, []), 5, 101),
  (6, (.invokestatic 66, 9, 141, 3, .null, []), 4, 176),
  (9, (.ifCond .eq 18, 12, 27, 0, .null, []), 0, 0),
  (12, (.aload_n 0, 13, 0, 0, .null, []), 0, 0),
  (13, (.iload_n 2, 14, 2, 0, .null, []), 0, 0),
  (14, (.invokevirtual 199, 17, 167, 1, .null, []), 5, 88),
  (17, (.ifCond .eq 10, 20, 27, 0, .null, []), 0, 0),
  (20, (.iload_n 3, 21, 3, 0, .null, []), 0, 0),
  (21, (.invokestatic 196, 24, 168, 1, .null, []), 5, 81),
  (24, (.ifCond .ne 7, 27, 31, 0, .null, []), 0, 0),
  (27, (.ldc2_w 282, 30, 0, 0, .long (-1 : Int64), []), 6, 5),
  (30, (.lreturn, 31, 0, 0, .null, []), 0, 0),
  (31, (.aload_n 0, 32, 0, 0, .null, []), 0, 0),
  (32, (.invokevirtual 175, 35, 169, 0, .null, []), 5, 21),
  (35, (.lconst 1, 36, 0, 0, .long 1, []), 0, 0),
  (36, (.lstore 4, 38, 4, 0, .null, []), 0, 0),
  (38, (.lconst 1, 39, 0, 0, .long 1, []), 0, 0),
  (39, (.lstore 6, 41, 6, 0, .null, []), 0, 0),
  (41, (.iconst 0, 42, 0, 0, .int 0, []), 0, 0),
  (42, (.istore 8, 44, 8, 0, .null, []), 0, 0),
  (44, (.iload 8, 46, 8, 0, .null, []), 0, 0),
  (46, (.aload_n 0, 47, 0, 0, .null, []), 0, 0),
  (47, (.getfield 13, 50, 5, 1, .null, []), 4, 93),
  (50, (.iconst 4, 51, 0, 0, .int 4, []), 0, 0),
  (51, (.iaload, 52, 0, 0, .null, []), 0, 0),
  (52, (.if_icmp .ge 58, 55, 110, 0, .null, []), 0, 0),
  (55, (.lload 4, 57, 4, 0, .null, []), 0, 0),
  (57, (.aload_n 0, 58, 0, 0, .null, []), 0, 0),
  (58, (.iload_n 2, 59, 2, 0, .null, []), 0, 0),
  (59, (.iload 8, 61, 8, 0, .null, []), 0, 0),
  (61, (.invokevirtual 168, 64, 178, 2, .null, []), 5, 57),
  (64, (.ifCond .eq 14, 67, 78, 0, .null, []), 0, 0),
  (67, (.aload_n 0, 68, 0, 0, .null, []), 0, 0),
  (68, (.iload 8, 70, 8, 0, .null, []), 0, 0),
  (70, (.iload_n 1, 71, 1, 0, .null, []), 0, 0),
  (71, (.invokevirtual 284, 74, 221, 2, .null, []), 6, 6),
  (74, (.i2l, 75, 0, 0, .null, []), 0, 0),
  (75, (.goto 4, 78, 79, 0, .null, []), 0, 0),
  (78, (.lconst 1, 79, 0, 0, .long 1, []), 0, 0),
  (79, (.lmul, 80, 0, 0, .null, []), 0, 0),
  (80, (.lstore 4, 82, 4, 0, .null, []), 0, 0),
  (82, (.lload 6, 84, 6, 0, .null, []), 0, 0),
  (84, (.aload_n 0, 85, 0, 0, .null, []), 0, 0),
  (85, (.iload_n 2, 86, 2, 0, .null, []), 0, 0),
  (86, (.iload 8, 88, 8, 0, .null, []), 0, 0),
  (88, (.invokevirtual 168, 91, 178, 2, .null, []), 5, 57),
  (91, (.ifCond .eq 9, 94, 100, 0, .null, []), 0, 0),
  (94, (.ldc2_w 287, 97, 0, 0, .long 20, []), 6, 10),
  (97, (.goto 4, 100, 101, 0, .null, []), 0, 0),
  (100, (.lconst 1, 101, 0, 0, .long 1, []), 0, 0),
  (101, (.lmul, 102, 0, 0, .null, []), 0, 0),
  (102, (.lstore 6, 104, 6, 0, .null, []), 0, 0),
  (104, (.iinc 8 1, 107, 8, 0, .int 1, []), 0, 0),
  (107, (.goto (-63), 110, 44, 0, .null, []), 0, 0),
  (110, (.lload 6, 112, 6, 0, .null, []), 0, 0),
  (112, (.lload 4, 114, 4, 0, .null, []), 0, 0),
  (114, (.lsub, 115, 0, 0, .null, []), 0, 0),
  (115, (.lload 6, 117, 6, 0, .null, []), 0, 0),
  (117, (.iload_n 3, 118, 3, 0, .null, []), 0, 0),
  (118, (.invokestatic 289, 121, 220, 3, .null, []), 6, 11),
  (121, (.lreturn, 122, 0, 0, .null, []), 0, 0)]
/-- ThreadBankModel.slips(II)J -/
def qc_223 : List qm_E := [
  (0, (.iload_n 1, 1, 1, 0, .null, []), 0, 0),
  (1, (.i2l, 2, 0, 0, .null, []), 0, 0),
  (2, (.lconst 0, 3, 0, 0, .long 0, []), 0, 0),
  (3, (.ldc2_w 207, 6, 0, 0, .long 10, []), 5, 101),
  (6, (.invokestatic 66, 9, 141, 3, .null, []), 4, 176),
  (9, (.ifCond .eq 10, 12, 19, 0, .null, []), 0, 0),
  (12, (.iload_n 2, 13, 2, 0, .null, []), 0, 0),
  (13, (.invokestatic 196, 16, 168, 1, .null, []), 5, 81),
  (16, (.ifCond .ne 7, 19, 23, 0, .null, []), 0, 0),
  (19, (.ldc2_w 282, 22, 0, 0, .long (-1 : Int64), []), 6, 5),
  (22, (.lreturn, 23, 0, 0, .null, []), 0, 0),
  (23, (.aload_n 0, 24, 0, 0, .null, []), 0, 0),
  (24, (.invokevirtual 175, 27, 169, 0, .null, []), 5, 21),
  (27, (.lconst 0, 28, 0, 0, .long 0, []), 0, 0),
  (28, (.lstore_n 3, 29, 3, 0, .null, []), 0, 0),
  (29, (.iconst 0, 30, 0, 0, .int 0, []), 0, 0),
  (30, (.istore 5, 32, 5, 0, .null, []), 0, 0),
  (32, (.iload 5, 34, 5, 0, .null, []), 0, 0),
  (34, (.aload_n 0, 35, 0, 0, .null, []), 0, 0),
  (35, (.getfield 13, 38, 5, 1, .null, []), 4, 93),
  (38, (.iconst 4, 39, 0, 0, .int 4, []), 0, 0),
  (39, (.iaload, 40, 0, 0, .null, []), 0, 0),
  (40, (.if_icmp .ge 20, 43, 60, 0, .null, []), 0, 0),
  (43, (.lload_n 3, 44, 3, 0, .null, []), 0, 0),
  (44, (.aload_n 0, 45, 0, 0, .null, []), 0, 0),
  (45, (.iload 5, 47, 5, 0, .null, []), 0, 0),
  (47, (.iload_n 1, 48, 1, 0, .null, []), 0, 0),
  (48, (.invokevirtual 284, 51, 221, 2, .null, []), 6, 6),
  (51, (.i2l, 52, 0, 0, .null, []), 0, 0),
  (52, (.ladd, 53, 0, 0, .null, []), 0, 0),
  (53, (.lstore_n 3, 54, 3, 0, .null, []), 0, 0),
  (54, (.iinc 5 1, 57, 5, 0, .int 1, []), 0, 0),
  (57, (.goto (-25), 60, 32, 0, .null, []), 0, 0),
  (60, (.lload_n 3, 61, 3, 0, .null, []), 0, 0),
  (61, (.ldc2_w 287, 64, 0, 0, .long 20, []), 6, 10),
  (64, (.iload_n 2, 65, 2, 0, .null, []), 0, 0),
  (65, (.invokestatic 289, 68, 220, 3, .null, []), 6, 11),
  (68, (.lreturn, 69, 0, 0, .null, []), 0, 0)]
/-- ThreadBankModel.none(II)J -/
def qc_224 : List qm_E := [
  (0, (.iload_n 1, 1, 1, 0, .null, []), 0, 0),
  (1, (.i2l, 2, 0, 0, .null, []), 0, 0),
  (2, (.lconst 0, 3, 0, 0, .long 0, []), 0, 0),
  (3, (.ldc2_w 207, 6, 0, 0, .long 10, []), 5, 101),
  (6, (.invokestatic 66, 9, 141, 3, .null, []), 4, 176),
  (9, (.ifCond .eq 10, 12, 19, 0, .null, []), 0, 0),
  (12, (.iload_n 2, 13, 2, 0, .null, []), 0, 0),
  (13, (.invokestatic 196, 16, 168, 1, .null, []), 5, 81),
  (16, (.ifCond .ne 7, 19, 23, 0, .null, []), 0, 0),
  (19, (.ldc2_w 282, 22, 0, 0, .long (-1 : Int64), []), 6, 5),
  (22, (.lreturn, 23, 0, 0, .null, []), 0, 0),
  (23, (.aload_n 0, 24, 0, 0, .null, []), 0, 0),
  (24, (.invokevirtual 175, 27, 169, 0, .null, []), 5, 21),
  (27, (.lconst 1, 28, 0, 0, .long 1, []), 0, 0),
  (28, (.lstore_n 3, 29, 3, 0, .null, []), 0, 0),
  (29, (.lconst 1, 30, 0, 0, .long 1, []), 0, 0),
  (30, (.lstore 5, 32, 5, 0, .null, []), 0, 0),
  (32, (.iconst 0, 33, 0, 0, .int 0, []), 0, 0),
  (33, (.istore 7, 35, 7, 0, .null, []), 0, 0),
  (35, (.iload 7, 37, 7, 0, .null, []), 0, 0),
  (37, (.aload_n 0, 38, 0, 0, .null, []), 0, 0),
  (38, (.getfield 13, 41, 5, 1, .null, []), 4, 93),
  (41, (.iconst 4, 42, 0, 0, .int 4, []), 0, 0),
  (42, (.iaload, 43, 0, 0, .null, []), 0, 0),
  (43, (.if_icmp .ge 31, 46, 74, 0, .null, []), 0, 0),
  (46, (.lload_n 3, 47, 3, 0, .null, []), 0, 0),
  (47, (.bipush 20, 49, 0, 0, .int 20, []), 0, 0),
  (49, (.aload_n 0, 50, 0, 0, .null, []), 0, 0),
  (50, (.iload 7, 52, 7, 0, .null, []), 0, 0),
  (52, (.iload_n 1, 53, 1, 0, .null, []), 0, 0),
  (53, (.invokevirtual 284, 56, 221, 2, .null, []), 6, 6),
  (56, (.isub, 57, 0, 0, .null, []), 0, 0),
  (57, (.i2l, 58, 0, 0, .null, []), 0, 0),
  (58, (.lmul, 59, 0, 0, .null, []), 0, 0),
  (59, (.lstore_n 3, 60, 3, 0, .null, []), 0, 0),
  (60, (.lload 5, 62, 5, 0, .null, []), 0, 0),
  (62, (.ldc2_w 287, 65, 0, 0, .long 20, []), 6, 10),
  (65, (.lmul, 66, 0, 0, .null, []), 0, 0),
  (66, (.lstore 5, 68, 5, 0, .null, []), 0, 0),
  (68, (.iinc 7 1, 71, 7, 0, .int 1, []), 0, 0),
  (71, (.goto (-36), 74, 35, 0, .null, []), 0, 0),
  (74, (.lload_n 3, 75, 3, 0, .null, []), 0, 0),
  (75, (.lload 5, 77, 5, 0, .null, []), 0, 0),
  (77, (.iload_n 2, 78, 2, 0, .null, []), 0, 0),
  (78, (.invokestatic 289, 81, 220, 3, .null, []), 6, 11),
  (81, (.lreturn, 82, 0, 0, .null, []), 0, 0)]
/-- ThreadBankModel.see(II)I -/
def qc_225 : List qm_E := [
  (0, (.aload_n 0, 1, 0, 0, .null, []), 0, 0),
  (1, (.iload_n 1, 2, 1, 0, .null, []), 0, 0),
  (2, (.invokevirtual 204, 5, 166, 1, .null, []), 5, 97),
  (5, (.ifCond .eq 15, 8, 20, 0, .null, []), 0, 0),
  (8, (.iload_n 2, 9, 2, 0, .null, []), 0, 0),
  (9, (.i2l, 10, 0, 0, .null, []), 0, 0),
  (10, (.lconst 0, 11, 0, 0, .long 0, []), 0, 0),
  (11, (.ldc2_w 209, 14, 0, 0, .long 99, []), 5, 102),
  (14, (.invokestatic 66, 17, 141, 3, .null, []), 4, 176),
  (17, (.ifCond .ne 5, 20, 22, 0, .null, []), 0, 0),
  (20, (.iconst (-1), 21, 0, 0, .int (-1 : Int32), []), 0, 0),
  (21, (.ireturn, 22, 0, 0, .null, []), 0, 0),
  (22, (.aload_n 0, 23, 0, 0, .null, []), 0, 0),
  (23, (.getfield 7, 26, 5, 0, .null, []), 4, 92),
  (26, (.bipush 36, 28, 0, 0, .int 36, []), 0, 0),
  (28, (.iaload, 29, 0, 0, .null, []), 0, 0),
  (29, (.bipush 6, 31, 0, 0, .int 6, []), 0, 0),
  (31, (.if_icmp .ne 6, 34, 37, 0, .null, []), 0, 0),
  (34, (.bipush (-3), 36, 0, 0, .int (-3 : Int32), []), 0, 0),
  (36, (.ireturn, 37, 0, 0, .null, []), 0, 0),
  (37, (.aload_n 0, 38, 0, 0, .null, []), 0, 0),
  (38, (.getfield 7, 41, 5, 0, .null, []), 4, 92),
  (41, (.bipush 37, 43, 0, 0, .int 37, []), 0, 0),
  (43, (.iconst 2, 44, 0, 0, .int 2, []), 0, 0),
  (44, (.aload_n 0, 45, 0, 0, .null, []), 0, 0),
  (45, (.getfield 7, 48, 5, 0, .null, []), 4, 92),
  (48, (.bipush 36, 50, 0, 0, .int 36, []), 0, 0),
  (50, (.iaload, 51, 0, 0, .null, []), 0, 0),
  (51, (.imul, 52, 0, 0, .null, []), 0, 0),
  (52, (.iadd, 53, 0, 0, .null, []), 0, 0),
  (53, (.iload_n 1, 54, 1, 0, .null, []), 0, 0),
  (54, (.iastore, 55, 0, 0, .null, []), 0, 0),
  (55, (.aload_n 0, 56, 0, 0, .null, []), 0, 0),
  (56, (.getfield 7, 59, 5, 0, .null, []), 4, 92),
  (59, (.bipush 37, 61, 0, 0, .int 37, []), 0, 0),
  (61, (.iconst 2, 62, 0, 0, .int 2, []), 0, 0),
  (62, (.aload_n 0, 63, 0, 0, .null, []), 0, 0),
  (63, (.getfield 7, 66, 5, 0, .null, []), 4, 92),
  (66, (.bipush 36, 68, 0, 0, .int 36, []), 0, 0),
  (68, (.iaload, 69, 0, 0, .null, []), 0, 0),
  (69, (.imul, 70, 0, 0, .null, []), 0, 0),
  (70, (.iadd, 71, 0, 0, .null, []), 0, 0),
  (71, (.iconst 1, 72, 0, 0, .int 1, []), 0, 0),
  (72, (.iadd, 73, 0, 0, .null, []), 0, 0),
  (73, (.iload_n 2, 74, 2, 0, .null, []), 0, 0),
  (74, (.iastore, 75, 0, 0, .null, []), 0, 0),
  (75, (.aload_n 0, 76, 0, 0, .null, []), 0, 0),
  (76, (.getfield 7, 79, 5, 0, .null, []), 4, 92),
  (79, (.bipush 36, 81, 0, 0, .int 36, []), 0, 0),
  (81, (.dup2, 82, 0, 0, .null, []), 0, 0),
  (82, (.iaload, 83, 0, 0, .null, []), 0, 0),
  (83, (.iconst 1, 84, 0, 0, .int 1, []), 0, 0),
  (84, (.iadd, 85, 0, 0, .null, []), 0, 0),
  (85, (.iastore, 86, 0, 0, .null, []), 0, 0),
  (86, (.aload_n 0, 87, 0, 0, .null, []), 0, 0),
  (87, (.getfield 7, 90, 5, 0, .null, []), 4, 92),
  (90, (.bipush 36, 92, 0, 0, .int 36, []), 0, 0),
  (92, (.iaload, 93, 0, 0, .null, []), 0, 0),
  (93, (.ireturn, 94, 0, 0, .null, []), 0, 0)]
/-- ThreadBankModel.forget(I)I -/
def qc_226 : List qm_E := [
  (0, (.iload_n 1, 1, 1, 0, .null, []), 0, 0),
  (1, (.i2l, 2, 0, 0, .null, []), 0, 0),
  (2, (.lconst 0, 3, 0, 0, .long 0, []), 0, 0),
  (3, (.aload_n 0, 4, 0, 0, .null, []), 0, 0),
  (4, (.getfield 7, 7, 5, 0, .null, []), 4, 92),
  (7, (.bipush 36, 9, 0, 0, .int 36, []), 0, 0),
  (9, (.iaload, 10, 0, 0, .null, []), 0, 0),
  (10, (.i2l, 11, 0, 0, .null, []), 0, 0),
  (11, (.invokestatic 66, 14, 141, 3, .null, []), 4, 176),
  (14, (.ifCond .eq 13, 17, 27, 0, .null, []), 0, 0),
  (17, (.aload_n 0, 18, 0, 0, .null, []), 0, 0),
  (18, (.bipush 36, 20, 0, 0, .int 36, []), 0, 0),
  (20, (.iload_n 1, 21, 1, 0, .null, []), 0, 0),
  (21, (.invokevirtual 211, 24, 188, 2, .null, []), 5, 103),
  (24, (.goto 4, 27, 28, 0, .null, []), 0, 0),
  (27, (.iconst (-1), 28, 0, 0, .int (-1 : Int32), []), 0, 0),
  (28, (.ireturn, 29, 0, 0, .null, []), 0, 0)]
/-- ThreadBankModel.isSo(I)Z -/
def qc_227 : List qm_E := [
  (0, (.iconst 1, 1, 0, 0, .int 1, []), 0, 0),
  (1, (.istore_n 2, 2, 2, 0, .null, []), 0, 0),
  (2, (.aload_n 0, 3, 0, 0, .null, []), 0, 0),
  (3, (.invokevirtual 175, 6, 169, 0, .null, []), 5, 21),
  (6, (.aload_n 0, 7, 0, 0, .null, []), 0, 0),
  (7, (.iload_n 1, 8, 1, 0, .null, []), 0, 0),
  (8, (.invokevirtual 214, 11, 177, 1, .null, []), 5, 111),
  (11, (.aload_n 0, 12, 0, 0, .null, []), 0, 0),
  (12, (.bipush 9, 14, 0, 0, .int 9, []), 0, 0),
  (14, (.invokevirtual 184, 17, 180, 1, .null, []), 5, 49),
  (17, (.iconst 0, 18, 0, 0, .int 0, []), 0, 0),
  (18, (.istore_n 3, 19, 3, 0, .null, []), 0, 0),
  (19, (.iload_n 3, 20, 3, 0, .null, []), 0, 0),
  (20, (.aload_n 0, 21, 0, 0, .null, []), 0, 0),
  (21, (.getfield 7, 24, 5, 0, .null, []), 4, 92),
  (24, (.bipush 36, 26, 0, 0, .int 36, []), 0, 0),
  (26, (.iaload, 27, 0, 0, .null, []), 0, 0),
  (27, (.if_icmp .ge 50, 30, 77, 0, .null, []), 0, 0),
  (30, (.iload_n 2, 31, 2, 0, .null, []), 0, 0),
  (31, (.ifCond .eq 38, 34, 69, 0, .null, []), 0, 0),
  (34, (.aload_n 0, 35, 0, 0, .null, []), 0, 0),
  (35, (.aload_n 0, 36, 0, 0, .null, []), 0, 0),
  (36, (.getfield 7, 39, 5, 0, .null, []), 4, 92),
  (39, (.bipush 37, 41, 0, 0, .int 37, []), 0, 0),
  (41, (.iconst 2, 42, 0, 0, .int 2, []), 0, 0),
  (42, (.iload_n 3, 43, 3, 0, .null, []), 0, 0),
  (43, (.imul, 44, 0, 0, .null, []), 0, 0),
  (44, (.iadd, 45, 0, 0, .null, []), 0, 0),
  (45, (.iaload, 46, 0, 0, .null, []), 0, 0),
  (46, (.invokevirtual 225, 49, 181, 1, .null, []), 5, 144),
  (49, (.aload_n 0, 50, 0, 0, .null, []), 0, 0),
  (50, (.getfield 7, 53, 5, 0, .null, []), 4, 92),
  (53, (.bipush 37, 55, 0, 0, .int 37, []), 0, 0),
  (55, (.iconst 2, 56, 0, 0, .int 2, []), 0, 0),
  (56, (.iload_n 3, 57, 3, 0, .null, []), 0, 0),
  (57, (.imul, 58, 0, 0, .null, []), 0, 0),
  (58, (.iadd, 59, 0, 0, .null, []), 0, 0),
  (59, (.iconst 1, 60, 0, 0, .int 1, []), 0, 0),
  (60, (.iadd, 61, 0, 0, .null, []), 0, 0),
  (61, (.iaload, 62, 0, 0, .null, []), 0, 0),
  (62, (.if_icmp .ne 7, 65, 69, 0, .null, []), 0, 0),
  (65, (.iconst 1, 66, 0, 0, .int 1, []), 0, 0),
  (66, (.goto 4, 69, 70, 0, .null, []), 0, 0),
  (69, (.iconst 0, 70, 0, 0, .int 0, []), 0, 0),
  (70, (.istore_n 2, 71, 2, 0, .null, []), 0, 0),
  (71, (.iinc 3 1, 74, 3, 0, .int 1, []), 0, 0),
  (74, (.goto (-55), 77, 19, 0, .null, []), 0, 0),
  (77, (.iload_n 2, 78, 2, 0, .null, []), 0, 0),
  (78, (.ireturn, 79, 0, 0, .null, []), 0, 0)]
/-- ThreadBankModel.fits(I)I -/
def qc_228 : List qm_E := [
  (0, (.iload_n 1, 1, 1, 0, .null, []), 0, 0),
  (1, (.i2l, 2, 0, 0, .null, []), 0, 0),
  (2, (.lconst 0, 3, 0, 0, .long 0, []), 0, 0),
  (3, (.ldc2_w 293, 6, 0, 0, .long 4, []), 6, 37),
  (6, (.invokestatic 66, 9, 141, 3, .null, []), 4, 176),
  (9, (.ifCond .ne 5, 12, 14, 0, .null, []), 0, 0),
  (12, (.iconst (-1), 13, 0, 0, .int (-1 : Int32), []), 0, 0),
  (13, (.ireturn, 14, 0, 0, .null, []), 0, 0),
  (14, (.iconst 1, 15, 0, 0, .int 1, []), 0, 0),
  (15, (.aload_n 0, 16, 0, 0, .null, []), 0, 0),
  (16, (.getfield 7, 19, 5, 0, .null, []), 4, 92),
  (19, (.iconst 4, 20, 0, 0, .int 4, []), 0, 0),
  (20, (.iaload, 21, 0, 0, .null, []), 0, 0),
  (21, (.ishl, 22, 0, 0, .null, []), 0, 0),
  (22, (.iconst 1, 23, 0, 0, .int 1, []), 0, 0),
  (23, (.isub, 24, 0, 0, .null, []), 0, 0),
  (24, (.istore_n 2, 25, 2, 0, .null, []), 0, 0),
  (25, (.iconst 0, 26, 0, 0, .int 0, []), 0, 0),
  (26, (.istore_n 3, 27, 3, 0, .null, []), 0, 0),
  (27, (.bipush (-4), 29, 0, 0, .int (-4 : Int32), []), 0, 0),
  (29, (.istore 4, 31, 4, 0, .null, []), 0, 0),
  (31, (.iload_n 2, 32, 2, 0, .null, []), 0, 0),
  (32, (.istore 5, 34, 5, 0, .null, []), 0, 0),
  (34, (.iconst 0, 35, 0, 0, .int 0, []), 0, 0),
  (35, (.istore 6, 37, 6, 0, .null, []), 0, 0),
  (37, (.ldc 233, 39, 0, 0, .int 1000000, []), 5, 181),
  (39, (.istore 7, 41, 7, 0, .null, []), 0, 0),
  (41, (.iconst 0, 42, 0, 0, .int 0, []), 0, 0),
  (42, (.istore 8, 44, 8, 0, .null, []), 0, 0),
  (44, (.iload 8, 46, 8, 0, .null, []), 0, 0),
  (46, (.iload_n 2, 47, 2, 0, .null, []), 0, 0),
  (47, (.if_icmp .gt 70, 50, 117, 0, .null, []), 0, 0),
  (50, (.aload_n 0, 51, 0, 0, .null, []), 0, 0),
  (51, (.iload 8, 53, 8, 0, .null, []), 0, 0),
  (53, (.invokevirtual 295, 56, 227, 1, .null, []), 6, 38),
  (56, (.ifCond .eq 55, 59, 111, 0, .null, []), 0, 0),
  (59, (.iload_n 3, 60, 3, 0, .null, []), 0, 0),
  (60, (.ifCond .ne 8, 63, 68, 0, .null, []), 0, 0),
  (63, (.iload 8, 65, 8, 0, .null, []), 0, 0),
  (65, (.goto 5, 68, 70, 0, .null, []), 0, 0),
  (68, (.iload 4, 70, 4, 0, .null, []), 0, 0),
  (70, (.istore 4, 72, 4, 0, .null, []), 0, 0),
  (72, (.iload 5, 74, 5, 0, .null, []), 0, 0),
  (74, (.iload 8, 76, 8, 0, .null, []), 0, 0),
  (76, (.iand, 77, 0, 0, .null, []), 0, 0),
  (77, (.istore 5, 79, 5, 0, .null, []), 0, 0),
  (79, (.iload 6, 81, 6, 0, .null, []), 0, 0),
  (81, (.iload 8, 83, 8, 0, .null, []), 0, 0),
  (83, (.ior, 84, 0, 0, .null, []), 0, 0),
  (84, (.istore 6, 86, 6, 0, .null, []), 0, 0),
  (86, (.iload 8, 88, 8, 0, .null, []), 0, 0),
  (88, (.invokestatic 266, 91, 207, 1, .null, []), 5, 202),
  (91, (.iload 7, 93, 7, 0, .null, []), 0, 0),
  (93, (.if_icmp .ge 11, 96, 104, 0, .null, []), 0, 0),
  (96, (.iload 8, 98, 8, 0, .null, []), 0, 0),
  (98, (.invokestatic 266, 101, 207, 1, .null, []), 5, 202),
  (101, (.goto 5, 104, 106, 0, .null, []), 0, 0),
  (104, (.iload 7, 106, 7, 0, .null, []), 0, 0),
  (106, (.istore 7, 108, 7, 0, .null, []), 0, 0),
  (108, (.iinc 3 1, 111, 3, 0, .int 1, []), 0, 0),
  (111, (.iinc 8 1, 114, 8, 0, .int 1, []), 0, 0),
  (114, (.goto (-70), 117, 44, 0, .null, []), 0, 0),
  (117, (.iload_n 1, 118, 1, 0, .null, []), 0, 0),
  (118, (.ifCond .eq 7, 121, 125, 0, .null, []), 0, 0),
  (121, (.iload_n 3, 122, 3, 0, .null, []), 0, 0),
  (122, (.ifCond .ne 14, 125, 136, 0, .null, []), 0, 0),
  (125, (.iload_n 1, 126, 1, 0, .null, []), 0, 0),
  (126, (.ifCond .ne 7, 129, 133, 0, .null, []), 0, 0),
  (129, (.iload_n 3, 130, 3, 0, .null, []), 0, 0),
  (130, (.goto 5, 133, 135, 0, .null, []), 0, 0),
  (133, (.bipush (-4), 135, 0, 0, .int (-4 : Int32), []), 0, 0),
  (135, (.ireturn, 136, 0, 0, .null, []), 0, 0),
  (136, (.iload_n 1, 137, 1, 0, .null, []), 0, 0),
  (137, (.iconst 1, 138, 0, 0, .int 1, []), 0, 0),
  (138, (.if_icmp .ne 8, 141, 146, 0, .null, []), 0, 0),
  (141, (.iload 4, 143, 4, 0, .null, []), 0, 0),
  (143, (.goto 29, 146, 172, 0, .null, []), 0, 0),
  (146, (.iload_n 1, 147, 1, 0, .null, []), 0, 0),
  (147, (.iconst 2, 148, 0, 0, .int 2, []), 0, 0),
  (148, (.if_icmp .ne 8, 151, 156, 0, .null, []), 0, 0),
  (151, (.iload 5, 153, 5, 0, .null, []), 0, 0),
  (153, (.goto 19, 156, 172, 0, .null, []), 0, 0),
  (156, (.iload_n 1, 157, 1, 0, .null, []), 0, 0),
  (157, (.iconst 3, 158, 0, 0, .int 3, []), 0, 0),
  (158, (.if_icmp .ne 12, 161, 170, 0, .null, []), 0, 0),
  (161, (.iload_n 2, 162, 2, 0, .null, []), 0, 0),
  (162, (.iload 6, 164, 6, 0, .null, []), 0, 0),
  (164, (.iconst (-1), 165, 0, 0, .int (-1 : Int32), []), 0, 0),
  (165, (.ixor, 166, 0, 0, .null, []), 0, 0),
  (166, (.iand, 167, 0, 0, .null, []), 0, 0),
  (167, (.goto 5, 170, 172, 0, .null, []), 0, 0),
  (170, (.iload 7, 172, 7, 0, .null, []), 0, 0),
  (172, (.ireturn, 173, 0, 0, .null, []), 0, 0)]
/-- ThreadBankModel.drift(III)I -/
def qc_229 : List qm_E := [
  (0, (.iload_n 2, 1, 2, 0, .null, []), 0, 0),
  (1, (.i2l, 2, 0, 0, .null, []), 0, 0),
  (2, (.lconst 1, 3, 0, 0, .long 1, []), 0, 0),
  (3, (.ldc2_w 287, 6, 0, 0, .long 20, []), 6, 10),
  (6, (.invokestatic 66, 9, 141, 3, .null, []), 4, 176),
  (9, (.ifCond .eq 15, 12, 24, 0, .null, []), 0, 0),
  (12, (.iload_n 3, 13, 3, 0, .null, []), 0, 0),
  (13, (.i2l, 14, 0, 0, .null, []), 0, 0),
  (14, (.lconst 0, 15, 0, 0, .long 0, []), 0, 0),
  (15, (.ldc2_w 207, 18, 0, 0, .long 10, []), 5, 101),
  (18, (.invokestatic 66, 21, 141, 3, .null, []), 4, 176),
  (21, (.ifCond .ne 5, 24, 26, 0, .null, []), 0, 0),
  (24, (.iconst (-1), 25, 0, 0, .int (-1 : Int32), []), 0, 0),
  (25, (.ireturn, 26, 0, 0, .null, []), 0, 0),
  (26, (.iload_n 1, 27, 1, 0, .null, []), 0, 0),
  (27, (.istore 4, 29, 4, 0, .null, []), 0, 0),
  (29, (.aload_n 0, 30, 0, 0, .null, []), 0, 0),
  (30, (.invokevirtual 175, 33, 169, 0, .null, []), 5, 21),
  (33, (.iconst 1, 34, 0, 0, .int 1, []), 0, 0),
  (34, (.aload_n 0, 35, 0, 0, .null, []), 0, 0),
  (35, (.getfield 13, 38, 5, 1, .null, []), 4, 93),
  (38, (.iconst 4, 39, 0, 0, .int 4, []), 0, 0),
  (39, (.iaload, 40, 0, 0, .null, []), 0, 0),
  (40, (.ishl, 41, 0, 0, .null, []), 0, 0),
  (41, (.iconst 1, 42, 0, 0, .int 1, []), 0, 0),
  (42, (.isub, 43, 0, 0, .null, []), 0, 0),
  (43, (.istore 5, 45, 5, 0, .null, []), 0, 0),
  (45, (.iconst 0, 46, 0, 0, .int 0, []), 0, 0),
  (46, (.istore 6, 48, 6, 0, .null, []), 0, 0),
  (48, (.iload 6, 50, 6, 0, .null, []), 0, 0),
  (50, (.iload_n 2, 51, 2, 0, .null, []), 0, 0),
  (51, (.if_icmp .ge 97, 54, 148, 0, .null, []), 0, 0),
  (54, (.iload 5, 56, 5, 0, .null, []), 0, 0),
  (56, (.istore 7, 58, 7, 0, .null, []), 0, 0),
  (58, (.iconst 0, 59, 0, 0, .int 0, []), 0, 0),
  (59, (.istore 8, 61, 8, 0, .null, []), 0, 0),
  (61, (.iload 8, 63, 8, 0, .null, []), 0, 0),
  (63, (.aload_n 0, 64, 0, 0, .null, []), 0, 0),
  (64, (.getfield 13, 67, 5, 1, .null, []), 4, 93),
  (67, (.iconst 4, 68, 0, 0, .int 4, []), 0, 0),
  (68, (.iaload, 69, 0, 0, .null, []), 0, 0),
  (69, (.if_icmp .ge 69, 72, 138, 0, .null, []), 0, 0),
  (72, (.iload 5, 74, 5, 0, .null, []), 0, 0),
  (74, (.iload 8, 76, 8, 0, .null, []), 0, 0),
  (76, (.ishr, 77, 0, 0, .null, []), 0, 0),
  (77, (.iconst 1, 78, 0, 0, .int 1, []), 0, 0),
  (78, (.iand, 79, 0, 0, .null, []), 0, 0),
  (79, (.iconst 1, 80, 0, 0, .int 1, []), 0, 0),
  (80, (.if_icmp .ne 52, 83, 132, 0, .null, []), 0, 0),
  (83, (.iload 4, 85, 4, 0, .null, []), 0, 0),
  (85, (.ldc_w 298, 88, 0, 0, .int 1103515245, []), 6, 46),
  (88, (.imul, 89, 0, 0, .null, []), 0, 0),
  (89, (.sipush 12345, 92, 0, 0, .int 12345, []), 0, 0),
  (92, (.iadd, 93, 0, 0, .null, []), 0, 0),
  (93, (.istore 4, 95, 4, 0, .null, []), 0, 0),
  (95, (.iload 7, 97, 7, 0, .null, []), 0, 0),
  (97, (.iload 4, 99, 4, 0, .null, []), 0, 0),
  (99, (.bipush 16, 101, 0, 0, .int 16, []), 0, 0),
  (101, (.ishr, 102, 0, 0, .null, []), 0, 0),
  (102, (.sipush 32767, 105, 0, 0, .int 32767, []), 0, 0),
  (105, (.iand, 106, 0, 0, .null, []), 0, 0),
  (106, (.bipush 20, 108, 0, 0, .int 20, []), 0, 0),
  (108, (.irem, 109, 0, 0, .null, []), 0, 0),
  (109, (.aload_n 0, 110, 0, 0, .null, []), 0, 0),
  (110, (.iload 8, 112, 8, 0, .null, []), 0, 0),
  (112, (.iload_n 3, 113, 3, 0, .null, []), 0, 0),
  (113, (.invokevirtual 284, 116, 221, 2, .null, []), 6, 6),
  (116, (.if_icmp .ge 12, 119, 128, 0, .null, []), 0, 0),
  (119, (.iconst 1, 120, 0, 0, .int 1, []), 0, 0),
  (120, (.iload 8, 122, 8, 0, .null, []), 0, 0),
  (122, (.ishl, 123, 0, 0, .null, []), 0, 0),
  (123, (.iconst (-1), 124, 0, 0, .int (-1 : Int32), []), 0, 0),
  (124, (.ixor, 125, 0, 0, .null, []), 0, 0),
  (125, (.goto 4, 128, 129, 0, .null, []), 0, 0),
  (128, (.iconst (-1), 129, 0, 0, .int (-1 : Int32), []), 0, 0),
  (129, (.iand, 130, 0, 0, .null, []), 0, 0),
  (130, (.istore 7, 132, 7, 0, .null, []), 0, 0),
  (132, (.iinc 8 1, 135, 8, 0, .int 1, []), 0, 0),
  (135, (.goto (-74), 138, 61, 0, .null, []), 0, 0),
  (138, (.iload 7, 140, 7, 0, .null, []), 0, 0),
  (140, (.istore 5, 142, 5, 0, .null, []), 0, 0),
  (142, (.iinc 6 1, 145, 6, 0, .int 1, []), 0, 0),
  (145, (.goto (-97), 148, 48, 0, .null, []), 0, 0),
  (148, (.iload 5, 150, 5, 0, .null, []), 0, 0),
  (150, (.ireturn, 151, 0, 0, .null, []), 0, 0)]
/-- ThreadBankModel.copiesTo(II)V -/
def qc_230 : List qm_E := [
  (0, (.iconst 0, 1, 0, 0, .int 0, []), 0, 0),
  (1, (.istore_n 3, 2, 3, 0, .null, []), 0, 0),
  (2, (.iload_n 3, 3, 3, 0, .null, []), 0, 0),
  (3, (.bipush 49, 5, 0, 0, .int 49, []), 0, 0),
  (5, (.if_icmp .ge 25, 8, 30, 0, .null, []), 0, 0),
  (8, (.aload_n 0, 9, 0, 0, .null, []), 0, 0),
  (9, (.getfield 7, 12, 5, 0, .null, []), 4, 92),
  (12, (.iload_n 1, 13, 1, 0, .null, []), 0, 0),
  (13, (.iload_n 3, 14, 3, 0, .null, []), 0, 0),
  (14, (.iadd, 15, 0, 0, .null, []), 0, 0),
  (15, (.aload_n 0, 16, 0, 0, .null, []), 0, 0),
  (16, (.getfield 7, 19, 5, 0, .null, []), 4, 92),
  (19, (.iload_n 2, 20, 2, 0, .null, []), 0, 0),
  (20, (.iload_n 3, 21, 3, 0, .null, []), 0, 0),
  (21, (.iadd, 22, 0, 0, .null, []), 0, 0),
  (22, (.iaload, 23, 0, 0, .null, []), 0, 0),
  (23, (.iastore, 24, 0, 0, .null, []), 0, 0),
  (24, (.iinc 3 1, 27, 3, 0, .int 1, []), 0, 0),
  (27, (.goto (-25), 30, 2, 0, .null, []), 0, 0),
  (30, (.return_, 31, 0, 0, .null, []), 0, 0)]
/-- ThreadBankModel.keep(I)I -/
def qc_231 : List qm_E := [
  (0, (.iload_n 1, 1, 1, 0, .null, []), 0, 0),
  (1, (.i2l, 2, 0, 0, .null, []), 0, 0),
  (2, (.lconst 0, 3, 0, 0, .long 0, []), 0, 0),
  (3, (.lconst 1, 4, 0, 0, .long 1, []), 0, 0),
  (4, (.invokestatic 66, 7, 141, 3, .null, []), 4, 176),
  (7, (.ifCond .ne 5, 10, 12, 0, .null, []), 0, 0),
  (10, (.iconst (-1), 11, 0, 0, .int (-1 : Int32), []), 0, 0),
  (11, (.ireturn, 12, 0, 0, .null, []), 0, 0),
  (12, (.aload_n 0, 13, 0, 0, .null, []), 0, 0),
  (13, (.getfield 16, 16, 5, 2, .null, []), 4, 94),
  (16, (.iload_n 1, 17, 1, 0, .null, []), 0, 0),
  (17, (.baload, 18, 0, 0, .null, []), 0, 0),
  (18, (.invokestatic 141, 21, 142, 1, .null, []), 5, 7),
  (21, (.istore_n 2, 22, 2, 0, .null, []), 0, 0),
  (22, (.aload_n 0, 23, 0, 0, .null, []), 0, 0),
  (23, (.getfield 16, 26, 5, 2, .null, []), 4, 94),
  (26, (.iload_n 1, 27, 1, 0, .null, []), 0, 0),
  (27, (.iconst 1, 28, 0, 0, .int 1, []), 0, 0),
  (28, (.bastore, 29, 0, 0, .null, []), 0, 0),
  (29, (.aload_n 0, 30, 0, 0, .null, []), 0, 0),
  (30, (.bipush 49, 32, 0, 0, .int 49, []), 0, 0),
  (32, (.iload_n 1, 33, 1, 0, .null, []), 0, 0),
  (33, (.iconst 1, 34, 0, 0, .int 1, []), 0, 0),
  (34, (.iadd, 35, 0, 0, .null, []), 0, 0),
  (35, (.imul, 36, 0, 0, .null, []), 0, 0),
  (36, (.iconst 0, 37, 0, 0, .int 0, []), 0, 0),
  (37, (.invokevirtual 299, 40, 230, 2, .null, []), 6, 51),
  (40, (.iload_n 2, 41, 2, 0, .null, []), 0, 0),
  (41, (.ireturn, 42, 0, 0, .null, []), 0, 0)]
/-- ThreadBankModel.back(I)I -/
def qc_232 : List qm_E := [
  (0, (.iload_n 1, 1, 1, 0, .null, []), 0, 0),
  (1, (.i2l, 2, 0, 0, .null, []), 0, 0),
  (2, (.lconst 0, 3, 0, 0, .long 0, []), 0, 0),
  (3, (.lconst 1, 4, 0, 0, .long 1, []), 0, 0),
  (4, (.invokestatic 66, 7, 141, 3, .null, []), 4, 176),
  (7, (.ifCond .ne 5, 10, 12, 0, .null, []), 0, 0),
  (10, (.iconst (-1), 11, 0, 0, .int (-1 : Int32), []), 0, 0),
  (11, (.ireturn, 12, 0, 0, .null, []), 0, 0),
  (12, (.aload_n 0, 13, 0, 0, .null, []), 0, 0),
  (13, (.getfield 16, 16, 5, 2, .null, []), 4, 94),
  (16, (.iload_n 1, 17, 1, 0, .null, []), 0, 0),
  (17, (.baload, 18, 0, 0, .null, []), 0, 0),
  (18, (.ifCond .ne 6, 21, 24, 0, .null, []), 0, 0),
  (21, (.bipush (-2), 23, 0, 0, .int (-2 : Int32), []), 0, 0),
  (23, (.ireturn, 24, 0, 0, .null, []), 0, 0),
  (24, (.aload_n 0, 25, 0, 0, .null, []), 0, 0),
  (25, (.iconst 0, 26, 0, 0, .int 0, []), 0, 0),
  (26, (.bipush 49, 28, 0, 0, .int 49, []), 0, 0),
  (28, (.iload_n 1, 29, 1, 0, .null, []), 0, 0),
  (29, (.iconst 1, 30, 0, 0, .int 1, []), 0, 0),
  (30, (.iadd, 31, 0, 0, .null, []), 0, 0),
  (31, (.imul, 32, 0, 0, .null, []), 0, 0),
  (32, (.invokevirtual 299, 35, 230, 2, .null, []), 6, 51),
  (35, (.aload_n 0, 36, 0, 0, .null, []), 0, 0),
  (36, (.getfield 7, 39, 5, 0, .null, []), 4, 92),
  (39, (.iconst 4, 40, 0, 0, .int 4, []), 0, 0),
  (40, (.iaload, 41, 0, 0, .null, []), 0, 0),
  (41, (.ireturn, 42, 0, 0, .null, []), 0, 0)]
/-- ThreadBankModel.isSheet(II)Z -/
def qc_233 : List qm_E := [
  (0, (.iload_n 0, 1, 0, 0, .null, []), 0, 0),
  (1, (.i2l, 2, 0, 0, .null, []), 0, 0),
  (2, (.lconst 0, 3, 0, 0, .long 0, []), 0, 0),
  (3, (.ldc2_w 202, 6, 0, 0, .long 3, []), 5, 92),
  (6, (.invokestatic 66, 9, 141, 3, .null, []), 4, 176),
  (9, (.ifCond .eq 19, 12, 28, 0, .null, []), 0, 0),
  (12, (.iload_n 1, 13, 1, 0, .null, []), 0, 0),
  (13, (.i2l, 14, 0, 0, .null, []), 0, 0),
  (14, (.lconst 0, 15, 0, 0, .long 0, []), 0, 0),
  (15, (.ldc2_w 228, 18, 0, 0, .long 2, []), 5, 152),
  (18, (.invokestatic 66, 21, 141, 3, .null, []), 4, 176),
  (21, (.ifCond .eq 7, 24, 28, 0, .null, []), 0, 0),
  (24, (.iconst 1, 25, 0, 0, .int 1, []), 0, 0),
  (25, (.goto 4, 28, 29, 0, .null, []), 0, 0),
  (28, (.iconst 0, 29, 0, 0, .int 0, []), 0, 0),
  (29, (.ireturn, 30, 0, 0, .null, []), 0, 0)]
/-- ThreadBankModel.sheet(III)I -/
def qc_234 : List qm_E := [
  (0, (.iload_n 1, 1, 1, 0, .null, []), 0, 0),
  (1, (.iload_n 2, 2, 2, 0, .null, []), 0, 0),
  (2, (.invokestatic 303, 5, 233, 2, .null, []), 6, 63),
  (5, (.ifCond .eq 9, 8, 14, 0, .null, []), 0, 0),
  (8, (.iload_n 3, 9, 3, 0, .null, []), 0, 0),
  (9, (.bipush 40, 11, 0, 0, .int 40, []), 0, 0),
  (11, (.if_icmp .le 5, 14, 16, 0, .null, []), 0, 0),
  (14, (.iconst (-1), 15, 0, 0, .int (-1 : Int32), []), 0, 0),
  (15, (.ireturn, 16, 0, 0, .null, []), 0, 0),
  (16, (.iload_n 3, 17, 3, 0, .null, []), 0, 0),
  (17, (.ifCond .ge 6, 20, 23, 0, .null, []), 0, 0),
  (20, (.bipush (-14), 22, 0, 0, .int (-14 : Int32), []), 0, 0),
  (22, (.ireturn, 23, 0, 0, .null, []), 0, 0),
  (23, (.aload_n 0, 24, 0, 0, .null, []), 0, 0),
  (24, (.getfield 35, 27, 5, 22, .null, []), 4, 114),
  (27, (.iload_n 1, 28, 1, 0, .null, []), 0, 0),
  (28, (.iload_n 2, 29, 2, 0, .null, []), 0, 0),
  (29, (.iastore, 30, 0, 0, .null, []), 0, 0),
  (30, (.aload_n 0, 31, 0, 0, .null, []), 0, 0),
  (31, (.getfield 38, 34, 5, 23, .null, []), 4, 115),
  (34, (.iload_n 1, 35, 1, 0, .null, []), 0, 0),
  (35, (.iload_n 3, 36, 3, 0, .null, []), 0, 0),
  (36, (.iastore, 37, 0, 0, .null, []), 0, 0),
  (37, (.iconst 0, 38, 0, 0, .int 0, []), 0, 0),
  (38, (.istore 4, 40, 4, 0, .null, []), 0, 0),
  (40, (.iload 4, 42, 4, 0, .null, []), 0, 0),
  (42, (.bipush 40, 44, 0, 0, .int 40, []), 0, 0),
  (44, (.if_icmp .ge 22, 47, 66, 0, .null, []), 0, 0),
  (47, (.aload_n 0, 48, 0, 0, .null, []), 0, 0),
  (48, (.getfield 41, 51, 5, 24, .null, []), 4, 116),
  (51, (.bipush 40, 53, 0, 0, .int 40, []), 0, 0),
  (53, (.iload_n 1, 54, 1, 0, .null, []), 0, 0),
  (54, (.imul, 55, 0, 0, .null, []), 0, 0),
  (55, (.iload 4, 57, 4, 0, .null, []), 0, 0),
  (57, (.iadd, 58, 0, 0, .null, []), 0, 0),
  (58, (.iconst 0, 59, 0, 0, .int 0, []), 0, 0),
  (59, (.iastore, 60, 0, 0, .null, []), 0, 0),
  (60, (.iinc 4 1, 63, 4, 0, .int 1, []), 0, 0),
  (63, (.goto (-23), 66, 40, 0, .null, []), 0, 0),
  (66, (.iconst 1, 67, 0, 0, .int 1, []), 0, 0),
  (67, (.ireturn, 68, 0, 0, .null, []), 0, 0)]
/-- ThreadBankModel.lay(III)I -/
def qc_235 : List qm_E := [
  (0, (.iload_n 1, 1, 1, 0, .null, []), 0, 0),
  (1, (.iconst 0, 2, 0, 0, .int 0, []), 0, 0),
  (2, (.invokestatic 303, 5, 233, 2, .null, []), 6, 63),
  (5, (.ifCond .ne 5, 8, 10, 0, .null, []), 0, 0),
  (8, (.iconst (-1), 9, 0, 0, .int (-1 : Int32), []), 0, 0),
  (9, (.ireturn, 10, 0, 0, .null, []), 0, 0),
  (10, (.aload_n 0, 11, 0, 0, .null, []), 0, 0),
  (11, (.getfield 35, 14, 5, 22, .null, []), 4, 114),
  (14, (.iload_n 1, 15, 1, 0, .null, []), 0, 0),
  (15, (.iaload, 16, 0, 0, .null, []), 0, 0),
  (16, (.bipush (-4), 18, 0, 0, .int (-4 : Int32), []), 0, 0),
  (18, (.if_icmp .ne 6, 21, 24, 0, .null, []), 0, 0),
  (21, (.bipush (-11), 23, 0, 0, .int (-11 : Int32), []), 0, 0),
  (23, (.ireturn, 24, 0, 0, .null, []), 0, 0),
  (24, (.iload_n 2, 25, 2, 0, .null, []), 0, 0),
  (25, (.i2l, 26, 0, 0, .null, []), 0, 0),
  (26, (.lconst 0, 27, 0, 0, .long 0, []), 0, 0),
  (27, (.aload_n 0, 28, 0, 0, .null, []), 0, 0),
  (28, (.getfield 38, 31, 5, 23, .null, []), 4, 115),
  (31, (.iload_n 1, 32, 1, 0, .null, []), 0, 0),
  (32, (.iaload, 33, 0, 0, .null, []), 0, 0),
  (33, (.iconst 1, 34, 0, 0, .int 1, []), 0, 0),
  (34, (.isub, 35, 0, 0, .null, []), 0, 0),
  (35, (.i2l, 36, 0, 0, .null, []), 0, 0),
  (36, (.invokestatic 66, 39, 141, 3, .null, []), 4, 176),
  (39, (.ifCond .ne 6, 42, 45, 0, .null, []), 0, 0),
  (42, (.bipush (-12), 44, 0, 0, .int (-12 : Int32), []), 0, 0),
  (44, (.ireturn, 45, 0, 0, .null, []), 0, 0),
  (45, (.aload_n 0, 46, 0, 0, .null, []), 0, 0),
  (46, (.getfield 41, 49, 5, 24, .null, []), 4, 116),
  (49, (.bipush 40, 51, 0, 0, .int 40, []), 0, 0),
  (51, (.iload_n 1, 52, 1, 0, .null, []), 0, 0),
  (52, (.imul, 53, 0, 0, .null, []), 0, 0),
  (53, (.iload_n 2, 54, 2, 0, .null, []), 0, 0),
  (54, (.iadd, 55, 0, 0, .null, []), 0, 0),
  (55, (.aload_n 0, 56, 0, 0, .null, []), 0, 0),
  (56, (.getfield 35, 59, 5, 22, .null, []), 4, 114),
  (59, (.iload_n 1, 60, 1, 0, .null, []), 0, 0),
  (60, (.iaload, 61, 0, 0, .null, []), 0, 0),
  (61, (.ifCond .ne 8, 64, 69, 0, .null, []), 0, 0),
  (64, (.iload_n 3, 65, 3, 0, .null, []), 0, 0),
  (65, (.i2b, 66, 0, 0, .null, []), 0, 0),
  (66, (.goto 19, 69, 85, 0, .null, []), 0, 0),
  (69, (.aload_n 0, 70, 0, 0, .null, []), 0, 0),
  (70, (.getfield 35, 73, 5, 22, .null, []), 4, 114),
  (73, (.iload_n 1, 74, 1, 0, .null, []), 0, 0),
  (74, (.iaload, 75, 0, 0, .null, []), 0, 0),
  (75, (.iconst 1, 76, 0, 0, .int 1, []), 0, 0),
  (76, (.if_icmp .ne 8, 79, 84, 0, .null, []), 0, 0),
  (79, (.iload_n 3, 80, 3, 0, .null, []), 0, 0),
  (80, (.i2s, 81, 0, 0, .null, []), 0, 0),
  (81, (.goto 4, 84, 85, 0, .null, []), 0, 0),
  (84, (.iload_n 3, 85, 3, 0, .null, []), 0, 0),
  (85, (.iastore, 86, 0, 0, .null, []), 0, 0),
  (86, (.iconst 1, 87, 0, 0, .int 1, []), 0, 0),
  (87, (.ireturn, 88, 0, 0, .null, []), 0, 0)]
/-- ThreadBankModel.read(IIII)I -/
def qc_236 : List qm_E := [
  (0, (.iload_n 1, 1, 1, 0, .null, []), 0, 0),
  (1, (.iload_n 2, 2, 2, 0, .null, []), 0, 0),
  (2, (.invokestatic 303, 5, 233, 2, .null, []), 6, 63),
  (5, (.ifCond .eq 16, 8, 21, 0, .null, []), 0, 0),
  (8, (.iload 4, 10, 4, 0, .null, []), 0, 0),
  (10, (.i2l, 11, 0, 0, .null, []), 0, 0),
  (11, (.lconst 0, 12, 0, 0, .long 0, []), 0, 0),
  (12, (.ldc2_w 207, 15, 0, 0, .long 10, []), 5, 101),
  (15, (.invokestatic 66, 18, 141, 3, .null, []), 4, 176),
  (18, (.ifCond .ne 5, 21, 23, 0, .null, []), 0, 0),
  (21, (.iconst (-1), 22, 0, 0, .int (-1 : Int32), []), 0, 0),
  (22, (.ireturn, 23, 0, 0, .null, []), 0, 0),
  (23, (.aload_n 0, 24, 0, 0, .null, []), 0, 0),
  (24, (.getfield 7, 27, 5, 0, .null, []), 4, 92),
  (27, (.iconst 4, 28, 0, 0, .int 4, []), 0, 0),
  (28, (.iaload, 29, 0, 0, .null, []), 0, 0),
  (29, (.istore 5, 31, 5, 0, .null, []), 0, 0),
  (31, (.iconst 0, 32, 0, 0, .int 0, []), 0, 0),
  (32, (.istore 6, 34, 6, 0, .null, []), 0, 0),
  (34, (.iconst 0, 35, 0, 0, .int 0, []), 0, 0),
  (35, (.istore 7, 37, 7, 0, .null, []), 0, 0),
  (37, (.iconst 0, 38, 0, 0, .int 0, []), 0, 0),
  (38, (.istore 8, 40, 8, 0, .null, []), 0, 0),
  (40, (.iload 8, 42, 8, 0, .null, []), 0, 0),
  (42, (.iload 4, 44, 4, 0, .null, []), 0, 0),
  (44, (.if_icmp .ge 171, 47, 215, 0, .null, []), 0, 0),
  (47, (.iload 6, 49, 6, 0, .null, []), 0, 0),
  (49, (.ifCond .ne 166, 52, 215, 0, .null, []), 0, 0),
  (52, (.iconst 0, 53, 0, 0, .int 0, []), 0, 0),
  (53, (.istore 9, 55, 9, 0, .null, []), 0, 0),
  (55, (.iload 9, 57, 9, 0, .null, []), 0, 0),
  (57, (.iconst 3, 58, 0, 0, .int 3, []), 0, 0),
  (58, (.if_icmp .ge 84, 61, 142, 0, .null, []), 0, 0),
  (61, (.iload 6, 63, 6, 0, .null, []), 0, 0),
  (63, (.ifCond .ne 79, 66, 142, 0, .null, []), 0, 0),
  (66, (.iload_n 3, 67, 3, 0, .null, []), 0, 0),
  (67, (.i2l, 68, 0, 0, .null, []), 0, 0),
  (68, (.iconst 3, 69, 0, 0, .int 3, []), 0, 0),
  (69, (.iload 8, 71, 8, 0, .null, []), 0, 0),
  (71, (.imul, 72, 0, 0, .null, []), 0, 0),
  (72, (.i2l, 73, 0, 0, .null, []), 0, 0),
  (73, (.ladd, 74, 0, 0, .null, []), 0, 0),
  (74, (.iload 9, 76, 9, 0, .null, []), 0, 0),
  (76, (.i2l, 77, 0, 0, .null, []), 0, 0),
  (77, (.ladd, 78, 0, 0, .null, []), 0, 0),
  (78, (.lstore 10, 80, 10, 0, .null, []), 0, 0),
  (80, (.aload_n 0, 81, 0, 0, .null, []), 0, 0),
  (81, (.getfield 35, 84, 5, 22, .null, []), 4, 114),
  (84, (.iload_n 1, 85, 1, 0, .null, []), 0, 0),
  (85, (.iaload, 86, 0, 0, .null, []), 0, 0),
  (86, (.bipush (-4), 88, 0, 0, .int (-4 : Int32), []), 0, 0),
  (88, (.if_icmp .ne 7, 91, 95, 0, .null, []), 0, 0),
  (91, (.iconst 1, 92, 0, 0, .int 1, []), 0, 0),
  (92, (.goto 42, 95, 134, 0, .null, []), 0, 0),
  (95, (.aload_n 0, 96, 0, 0, .null, []), 0, 0),
  (96, (.getfield 35, 99, 5, 22, .null, []), 4, 114),
  (99, (.iload_n 1, 100, 1, 0, .null, []), 0, 0),
  (100, (.iaload, 101, 0, 0, .null, []), 0, 0),
  (101, (.iload_n 2, 102, 2, 0, .null, []), 0, 0),
  (102, (.if_icmp .eq 7, 105, 109, 0, .null, []), 0, 0),
  (105, (.iconst 3, 106, 0, 0, .int 3, []), 0, 0),
  (106, (.goto 28, 109, 134, 0, .null, []), 0, 0),
  (109, (.lload 10, 111, 10, 0, .null, []), 0, 0),
  (111, (.lconst 0, 112, 0, 0, .long 0, []), 0, 0),
  (112, (.lcmp, 113, 0, 0, .null, []), 0, 0),
  (113, (.ifCond .lt 16, 116, 129, 0, .null, []), 0, 0),
  (116, (.lload 10, 118, 10, 0, .null, []), 0, 0),
  (118, (.aload_n 0, 119, 0, 0, .null, []), 0, 0),
  (119, (.getfield 38, 122, 5, 23, .null, []), 4, 115),
  (122, (.iload_n 1, 123, 1, 0, .null, []), 0, 0),
  (123, (.iaload, 124, 0, 0, .null, []), 0, 0),
  (124, (.i2l, 125, 0, 0, .null, []), 0, 0),
  (125, (.lcmp, 126, 0, 0, .null, []), 0, 0),
  (126, (.ifCond .lt 7, 129, 133, 0, .null, []), 0, 0),
  (129, (.iconst 2, 130, 0, 0, .int 2, []), 0, 0),
  (130, (.goto 4, 133, 134, 0, .null, []), 0, 0),
  (133, (.iconst 0, 134, 0, 0, .int 0, []), 0, 0),
  (134, (.istore 6, 136, 6, 0, .null, []), 0, 0),
  (136, (.iinc 9 1, 139, 9, 0, .int 1, []), 0, 0),
  (139, (.goto (-84), 142, 55, 0, .null, []), 0, 0),
  (142, (.iload 6, 144, 6, 0, .null, []), 0, 0),
  (144, (.ifCond .ne 65, 147, 209, 0, .null, []), 0, 0),
  (147, (.bipush 40, 149, 0, 0, .int 40, []), 0, 0),
  (149, (.iload_n 1, 150, 1, 0, .null, []), 0, 0),
  (150, (.imul, 151, 0, 0, .null, []), 0, 0),
  (151, (.iload_n 3, 152, 3, 0, .null, []), 0, 0),
  (152, (.iadd, 153, 0, 0, .null, []), 0, 0),
  (153, (.iconst 3, 154, 0, 0, .int 3, []), 0, 0),
  (154, (.iload 8, 156, 8, 0, .null, []), 0, 0),
  (156, (.imul, 157, 0, 0, .null, []), 0, 0),
  (157, (.iadd, 158, 0, 0, .null, []), 0, 0),
  (158, (.istore 9, 160, 9, 0, .null, []), 0, 0),
  (160, (.aload_n 0, 161, 0, 0, .null, []), 0, 0),
  (161, (.aload_n 0, 162, 0, 0, .null, []), 0, 0),
  (162, (.getfield 41, 165, 5, 24, .null, []), 4, 116),
  (165, (.iload 9, 167, 9, 0, .null, []), 0, 0),
  (167, (.iaload, 168, 0, 0, .null, []), 0, 0),
  (168, (.aload_n 0, 169, 0, 0, .null, []), 0, 0),
  (169, (.getfield 41, 172, 5, 24, .null, []), 4, 116),
  (172, (.iload 9, 174, 9, 0, .null, []), 0, 0),
  (174, (.iconst 1, 175, 0, 0, .int 1, []), 0, 0),
  (175, (.iadd, 176, 0, 0, .null, []), 0, 0),
  (176, (.iaload, 177, 0, 0, .null, []), 0, 0),
  (177, (.aload_n 0, 178, 0, 0, .null, []), 0, 0),
  (178, (.getfield 41, 181, 5, 24, .null, []), 4, 116),
  (181, (.iload 9, 183, 9, 0, .null, []), 0, 0),
  (183, (.iconst 2, 184, 0, 0, .int 2, []), 0, 0),
  (184, (.iadd, 185, 0, 0, .null, []), 0, 0),
  (185, (.iaload, 186, 0, 0, .null, []), 0, 0),
  (186, (.invokevirtual 306, 189, 189, 3, .null, []), 6, 74),
  (189, (.ifCond .ge 17, 192, 206, 0, .null, []), 0, 0),
  (192, (.aload_n 0, 193, 0, 0, .null, []), 0, 0),
  (193, (.getfield 7, 196, 5, 0, .null, []), 4, 92),
  (196, (.iconst 4, 197, 0, 0, .int 4, []), 0, 0),
  (197, (.iload 5, 199, 5, 0, .null, []), 0, 0),
  (199, (.iastore, 200, 0, 0, .null, []), 0, 0),
  (200, (.bipush (-20), 202, 0, 0, .int (-20 : Int32), []), 0, 0),
  (202, (.iload 8, 204, 8, 0, .null, []), 0, 0),
  (204, (.isub, 205, 0, 0, .null, []), 0, 0),
  (205, (.ireturn, 206, 0, 0, .null, []), 0, 0),
  (206, (.iinc 7 1, 209, 7, 0, .int 1, []), 0, 0),
  (209, (.iinc 8 1, 212, 8, 0, .int 1, []), 0, 0),
  (212, (.goto (-172), 215, 40, 0, .null, []), 0, 0),
  (215, (.aload_n 0, 216, 0, 0, .null, []), 0, 0),
  (216, (.iload 6, 218, 6, 0, .null, []), 0, 0),
  (218, (.putfield 310, 221, 5, 25, .null, []), 4, 117),
  (221, (.iload 7, 223, 7, 0, .null, []), 0, 0),
  (223, (.ireturn, 224, 0, 0, .null, []), 0, 0)]
/-- ThreadBankModel.torn()I -/
def qc_237 : List qm_E := [
  (0, (.aload_n 0, 1, 0, 0, .null, []), 0, 0),
  (1, (.getfield 310, 4, 5, 25, .null, []), 4, 117),
  (4, (.ireturn, 5, 0, 0, .null, []), 0, 0)]
/-- ThreadBankModel.count(I)I -/
def qc_238 : List qm_E := [
  (0, (.aload_n 0, 1, 0, 0, .null, []), 0, 0),
  (1, (.invokevirtual 175, 4, 169, 0, .null, []), 5, 21),
  (4, (.iconst 0, 5, 0, 0, .int 0, []), 0, 0),
  (5, (.istore_n 2, 6, 2, 0, .null, []), 0, 0),
  (6, (.iconst 0, 7, 0, 0, .int 0, []), 0, 0),
  (7, (.istore_n 3, 8, 3, 0, .null, []), 0, 0),
  (8, (.iconst 0, 9, 0, 0, .int 0, []), 0, 0),
  (9, (.istore 4, 11, 4, 0, .null, []), 0, 0),
  (11, (.iload 4, 13, 4, 0, .null, []), 0, 0),
  (13, (.aload_n 0, 14, 0, 0, .null, []), 0, 0),
  (14, (.getfield 13, 17, 5, 1, .null, []), 4, 93),
  (17, (.iconst 4, 18, 0, 0, .int 4, []), 0, 0),
  (18, (.iaload, 19, 0, 0, .null, []), 0, 0),
  (19, (.if_icmp .ge 33, 22, 52, 0, .null, []), 0, 0),
  (22, (.iload_n 2, 23, 2, 0, .null, []), 0, 0),
  (23, (.aload_n 0, 24, 0, 0, .null, []), 0, 0),
  (24, (.iload 4, 26, 4, 0, .null, []), 0, 0),
  (26, (.invokevirtual 269, 29, 213, 1, .null, []), 5, 221),
  (29, (.invokestatic 141, 32, 142, 1, .null, []), 5, 7),
  (32, (.iadd, 33, 0, 0, .null, []), 0, 0),
  (33, (.istore_n 2, 34, 2, 0, .null, []), 0, 0),
  (34, (.iload_n 3, 35, 3, 0, .null, []), 0, 0),
  (35, (.aload_n 0, 36, 0, 0, .null, []), 0, 0),
  (36, (.iload 4, 38, 4, 0, .null, []), 0, 0),
  (38, (.invokevirtual 172, 41, 179, 1, .null, []), 5, 53),
  (41, (.invokestatic 141, 44, 142, 1, .null, []), 5, 7),
  (44, (.iadd, 45, 0, 0, .null, []), 0, 0),
  (45, (.istore_n 3, 46, 3, 0, .null, []), 0, 0),
  (46, (.iinc 4 1, 49, 4, 0, .int 1, []), 0, 0),
  (49, (.goto (-38), 52, 11, 0, .null, []), 0, 0),
  (52, (.iload_n 1, 53, 1, 0, .null, []), 0, 0),
  (53, (.tableswitch 99 0 5 #[39, 41, 43, 51, 71, 76], 92, 152, 0, .null, [(0, 92), (1, 94), (2, 96), (3, 104), (4, 124), (5, 129)]), 0, 0),
  (92, (.iload_n 2, 93, 2, 0, .null, []), 0, 0),
  (93, (.ireturn, 94, 0, 0, .null, []), 0, 0),
  (94, (.iload_n 3, 95, 3, 0, .null, []), 0, 0),
  (95, (.ireturn, 96, 0, 0, .null, []), 0, 0),
  (96, (.aload_n 0, 97, 0, 0, .null, []), 0, 0),
  (97, (.getfield 7, 100, 5, 0, .null, []), 4, 92),
  (100, (.bipush 36, 102, 0, 0, .int 36, []), 0, 0),
  (102, (.iaload, 103, 0, 0, .null, []), 0, 0),
  (103, (.ireturn, 104, 0, 0, .null, []), 0, 0),
  (104, (.aload_n 0, 105, 0, 0, .null, []), 0, 0),
  (105, (.getfield 16, 108, 5, 2, .null, []), 4, 94),
  (108, (.iconst 0, 109, 0, 0, .int 0, []), 0, 0),
  (109, (.baload, 110, 0, 0, .null, []), 0, 0),
  (110, (.invokestatic 141, 113, 142, 1, .null, []), 5, 7),
  (113, (.aload_n 0, 114, 0, 0, .null, []), 0, 0),
  (114, (.getfield 16, 117, 5, 2, .null, []), 4, 94),
  (117, (.iconst 1, 118, 0, 0, .int 1, []), 0, 0),
  (118, (.baload, 119, 0, 0, .null, []), 0, 0),
  (119, (.invokestatic 141, 122, 142, 1, .null, []), 5, 7),
  (122, (.iadd, 123, 0, 0, .null, []), 0, 0),
  (123, (.ireturn, 124, 0, 0, .null, []), 0, 0),
  (124, (.aload_n 0, 125, 0, 0, .null, []), 0, 0),
  (125, (.getfield 70, 128, 5, 9, .null, []), 4, 101),
  (128, (.ireturn, 129, 0, 0, .null, []), 0, 0),
  (129, (.aload_n 0, 130, 0, 0, .null, []), 0, 0),
  (130, (.getfield 35, 133, 5, 22, .null, []), 4, 114),
  (133, (.iconst 0, 134, 0, 0, .int 0, []), 0, 0),
  (134, (.iaload, 135, 0, 0, .null, []), 0, 0),
  (135, (.bipush (-4), 137, 0, 0, .int (-4 : Int32), []), 0, 0),
  (137, (.if_icmp .ne 8, 140, 145, 0, .null, []), 0, 0),
  (140, (.bipush (-4), 142, 0, 0, .int (-4 : Int32), []), 0, 0),
  (142, (.goto 9, 145, 151, 0, .null, []), 0, 0),
  (145, (.aload_n 0, 146, 0, 0, .null, []), 0, 0),
  (146, (.getfield 38, 149, 5, 23, .null, []), 4, 115),
  (149, (.iconst 0, 150, 0, 0, .int 0, []), 0, 0),
  (150, (.iaload, 151, 0, 0, .null, []), 0, 0),
  (151, (.ireturn, 152, 0, 0, .null, []), 0, 0),
  (152, (.iconst (-1), 153, 0, 0, .int (-1 : Int32), []), 0, 0),
  (153, (.ireturn, 154, 0, 0, .null, []), 0, 0)]
/-- ThreadBankLaw.law([I)Z -/
def qc_239 : List qm_E := [
  (16, (.iconst 0, 17, 0, 0, .int 0, []), 0, 0),
  (17, (.istore_n 3, 18, 3, 0, .null, []), 0, 0),
  (18, (.iload_n 3, 19, 3, 0, .null, []), 0, 0),
  (19, (.aload_n 0, 20, 0, 0, .null, []), 0, 0),
  (20, (.arraylength, 21, 0, 0, .null, []), 0, 0),
  (21, (.iconst 5, 22, 0, 0, .int 5, []), 0, 0),
  (22, (.isub, 23, 0, 0, .null, []), 0, 0),
  (23, (.if_icmp .gt 1261, 26, 1284, 0, .null, []), 0, 0),
  (26, (.aload_n 0, 27, 0, 0, .null, []), 0, 0),
  (27, (.iload_n 3, 28, 3, 0, .null, []), 0, 0),
  (28, (.iaload, 29, 0, 0, .null, []), 0, 0),
  (29, (.bipush 63, 31, 0, 0, .int 63, []), 0, 0),
  (31, (.iand, 32, 0, 0, .null, []), 0, 0),
  (32, (.tableswitch 1246 0 39 #[176, 199, 222, 235, 248, 271, 304, 337, 370, 413, 436, 469, 492, 525, 548, 581, 604, 627, 650, 673, 686, 699, 712, 735, 748, 771, 794, 837, 870, 903, 936, 959, 982, 1025, 1048, 1071, 1114, 1157, 1210, 1223], 208, 1278, 0, .null, [(0, 208), (1, 231), (2, 254), (3, 267), (4, 280), (5, 303), (6, 336), (7, 369), (8, 402), (9, 445), (10, 468), (11, 501), (12, 524), (13, 557), (14, 580), (15, 613), (16, 636), (17, 659), (18, 682), (19, 705), (20, 718), (21, 731), (22, 744), (23, 767), (24, 780), (25, 803), (26, 826), (27, 869), (28, 902), (29, 935), (30, 968), (31, 991), (32, 1014), (33, 1057), (34, 1080), (35, 1103), (36, 1146), (37, 1189), (38, 1242), (39, 1255)]), 0, 0),
  (208, (.aload_n 1, 209, 1, 0, .null, []), 0, 0),
  (209, (.aload_n 0, 210, 0, 0, .null, []), 0, 0),
  (210, (.iload_n 3, 211, 3, 0, .null, []), 0, 0),
  (211, (.iconst 1, 212, 0, 0, .int 1, []), 0, 0),
  (212, (.iadd, 213, 0, 0, .null, []), 0, 0),
  (213, (.iaload, 214, 0, 0, .null, []), 0, 0),
  (214, (.invokevirtual 13, 217, 90, 1, .null, []), 1, 182),
  (217, (.aload_n 2, 218, 2, 0, .null, []), 0, 0),
  (218, (.aload_n 0, 219, 0, 0, .null, []), 0, 0),
  (219, (.iload_n 3, 220, 3, 0, .null, []), 0, 0),
  (220, (.iconst 1, 221, 0, 0, .int 1, []), 0, 0),
  (221, (.iadd, 222, 0, 0, .null, []), 0, 0),
  (222, (.iaload, 223, 0, 0, .null, []), 0, 0),
  (223, (.invokevirtual 17, 226, 145, 1, .null, []), 4, 171),
  (226, (.if_icmp .eq 1052, 229, 1278, 0, .null, []), 0, 0),
  (229, (.iconst 0, 230, 0, 0, .int 0, []), 0, 0),
  (230, (.ireturn, 231, 0, 0, .null, []), 0, 0),
  (231, (.aload_n 1, 232, 1, 0, .null, []), 0, 0),
  (232, (.aload_n 0, 233, 0, 0, .null, []), 0, 0),
  (233, (.iload_n 3, 234, 3, 0, .null, []), 0, 0),
  (234, (.iconst 1, 235, 0, 0, .int 1, []), 0, 0),
  (235, (.iadd, 236, 0, 0, .null, []), 0, 0),
  (236, (.iaload, 237, 0, 0, .null, []), 0, 0),
  (237, (.invokevirtual 18, 240, 91, 1, .null, []), 1, 190),
  (240, (.pop, 241, 0, 0, .null, []), 0, 0),
  (241, (.aload_n 2, 242, 2, 0, .null, []), 0, 0),
  (242, (.aload_n 0, 243, 0, 0, .null, []), 0, 0),
  (243, (.iload_n 3, 244, 3, 0, .null, []), 0, 0),
  (244, (.iconst 1, 245, 0, 0, .int 1, []), 0, 0),
  (245, (.iadd, 246, 0, 0, .null, []), 0, 0),
  (246, (.iaload, 247, 0, 0, .null, []), 0, 0),
  (247, (.invokevirtual 21, 250, 146, 1, .null, []), 4, 179),
  (250, (.pop, 251, 0, 0, .null, []), 0, 0),
  (251, (.goto 1027, 254, 1278, 0, .null, []), 0, 0),
  (254, (.aload_n 1, 255, 1, 0, .null, []), 0, 0),
  (255, (.invokevirtual 22, 258, 92, 0, .null, []), 1, 194),
  (258, (.pop, 259, 0, 0, .null, []), 0, 0),
  (259, (.aload_n 2, 260, 2, 0, .null, []), 0, 0),
  (260, (.invokevirtual 26, 263, 162, 0, .null, []), 4, 183),
  (263, (.pop, 264, 0, 0, .null, []), 0, 0),
  (264, (.goto 1014, 267, 1278, 0, .null, []), 0, 0),
  (267, (.aload_n 1, 268, 1, 0, .null, []), 0, 0),
  (268, (.invokevirtual 27, 271, 93, 0, .null, []), 2, 135),
  (271, (.pop, 272, 0, 0, .null, []), 0, 0),
  (272, (.aload_n 2, 273, 2, 0, .null, []), 0, 0),
  (273, (.invokevirtual 30, 276, 163, 0, .null, []), 5, 13),
  (276, (.pop, 277, 0, 0, .null, []), 0, 0),
  (277, (.goto 1001, 280, 1278, 0, .null, []), 0, 0),
  (280, (.aload_n 1, 281, 1, 0, .null, []), 0, 0),
  (281, (.aload_n 0, 282, 0, 0, .null, []), 0, 0),
  (282, (.iload_n 3, 283, 3, 0, .null, []), 0, 0),
  (283, (.iconst 1, 284, 0, 0, .int 1, []), 0, 0),
  (284, (.iadd, 285, 0, 0, .null, []), 0, 0),
  (285, (.iaload, 286, 0, 0, .null, []), 0, 0),
  (286, (.invokevirtual 31, 289, 94, 1, .null, []), 2, 139),
  (289, (.pop, 290, 0, 0, .null, []), 0, 0),
  (290, (.aload_n 2, 291, 2, 0, .null, []), 0, 0),
  (291, (.aload_n 0, 292, 0, 0, .null, []), 0, 0),
  (292, (.iload_n 3, 293, 3, 0, .null, []), 0, 0),
  (293, (.iconst 1, 294, 0, 0, .int 1, []), 0, 0),
  (294, (.iadd, 295, 0, 0, .null, []), 0, 0),
  (295, (.iaload, 296, 0, 0, .null, []), 0, 0),
  (296, (.invokevirtual 34, 299, 184, 1, .null, []), 5, 17),
  (299, (.pop, 300, 0, 0, .null, []), 0, 0),
  (300, (.goto 978, 303, 1278, 0, .null, []), 0, 0),
  (303, (.aload_n 1, 304, 1, 0, .null, []), 0, 0),
  (304, (.aload_n 0, 305, 0, 0, .null, []), 0, 0),
  (305, (.iload_n 3, 306, 3, 0, .null, []), 0, 0),
  (306, (.iconst 1, 307, 0, 0, .int 1, []), 0, 0),
  (307, (.iadd, 308, 0, 0, .null, []), 0, 0),
  (308, (.iaload, 309, 0, 0, .null, []), 0, 0),
  (309, (.aload_n 0, 310, 0, 0, .null, []), 0, 0),
  (310, (.iload_n 3, 311, 3, 0, .null, []), 0, 0),
  (311, (.iconst 2, 312, 0, 0, .int 2, []), 0, 0),
  (312, (.iadd, 313, 0, 0, .null, []), 0, 0),
  (313, (.iaload, 314, 0, 0, .null, []), 0, 0),
  (314, (.invokevirtual 35, 317, 95, 2, .null, []), 2, 155),
  (317, (.pop, 318, 0, 0, .null, []), 0, 0),
  (318, (.aload_n 2, 319, 2, 0, .null, []), 0, 0),
  (319, (.aload_n 0, 320, 0, 0, .null, []), 0, 0),
  (320, (.iload_n 3, 321, 3, 0, .null, []), 0, 0),
  (321, (.iconst 1, 322, 0, 0, .int 1, []), 0, 0),
  (322, (.iadd, 323, 0, 0, .null, []), 0, 0),
  (323, (.iaload, 324, 0, 0, .null, []), 0, 0),
  (324, (.aload_n 0, 325, 0, 0, .null, []), 0, 0),
  (325, (.iload_n 3, 326, 3, 0, .null, []), 0, 0),
  (326, (.iconst 2, 327, 0, 0, .int 2, []), 0, 0),
  (327, (.iadd, 328, 0, 0, .null, []), 0, 0),
  (328, (.iaload, 329, 0, 0, .null, []), 0, 0),
  (329, (.invokevirtual 39, 332, 185, 2, .null, []), 5, 41),
  (332, (.pop, 333, 0, 0, .null, []), 0, 0),
  (333, (.goto 945, 336, 1278, 0, .null, []), 0, 0),
  (336, (.aload_n 1, 337, 1, 0, .null, []), 0, 0),
  (337, (.aload_n 0, 338, 0, 0, .null, []), 0, 0),
  (338, (.iload_n 3, 339, 3, 0, .null, []), 0, 0),
  (339, (.iconst 1, 340, 0, 0, .int 1, []), 0, 0),
  (340, (.iadd, 341, 0, 0, .null, []), 0, 0),
  (341, (.iaload, 342, 0, 0, .null, []), 0, 0),
  (342, (.aload_n 0, 343, 0, 0, .null, []), 0, 0),
  (343, (.iload_n 3, 344, 3, 0, .null, []), 0, 0),
  (344, (.iconst 2, 345, 0, 0, .int 2, []), 0, 0),
  (345, (.iadd, 346, 0, 0, .null, []), 0, 0),
  (346, (.iaload, 347, 0, 0, .null, []), 0, 0),
  (347, (.invokevirtual 40, 350, 96, 2, .null, []), 2, 194),
  (350, (.pop, 351, 0, 0, .null, []), 0, 0),
  (351, (.aload_n 2, 352, 2, 0, .null, []), 0, 0),
  (352, (.aload_n 0, 353, 0, 0, .null, []), 0, 0),
  (353, (.iload_n 3, 354, 3, 0, .null, []), 0, 0),
  (354, (.iconst 1, 355, 0, 0, .int 1, []), 0, 0),
  (355, (.iadd, 356, 0, 0, .null, []), 0, 0),
  (356, (.iaload, 357, 0, 0, .null, []), 0, 0),
  (357, (.aload_n 0, 358, 0, 0, .null, []), 0, 0),
  (358, (.iload_n 3, 359, 3, 0, .null, []), 0, 0),
  (359, (.iconst 2, 360, 0, 0, .int 2, []), 0, 0),
  (360, (.iadd, 361, 0, 0, .null, []), 0, 0),
  (361, (.iaload, 362, 0, 0, .null, []), 0, 0),
  (362, (.invokevirtual 43, 365, 186, 2, .null, []), 5, 73),
  (365, (.pop, 366, 0, 0, .null, []), 0, 0),
  (366, (.goto 912, 369, 1278, 0, .null, []), 0, 0),
  (369, (.aload_n 1, 370, 1, 0, .null, []), 0, 0),
  (370, (.aload_n 0, 371, 0, 0, .null, []), 0, 0),
  (371, (.iload_n 3, 372, 3, 0, .null, []), 0, 0),
  (372, (.iconst 1, 373, 0, 0, .int 1, []), 0, 0),
  (373, (.iadd, 374, 0, 0, .null, []), 0, 0),
  (374, (.iaload, 375, 0, 0, .null, []), 0, 0),
  (375, (.aload_n 0, 376, 0, 0, .null, []), 0, 0),
  (376, (.iload_n 3, 377, 3, 0, .null, []), 0, 0),
  (377, (.iconst 2, 378, 0, 0, .int 2, []), 0, 0),
  (378, (.iadd, 379, 0, 0, .null, []), 0, 0),
  (379, (.iaload, 380, 0, 0, .null, []), 0, 0),
  (380, (.invokevirtual 44, 383, 97, 2, .null, []), 2, 201),
  (383, (.pop, 384, 0, 0, .null, []), 0, 0),
  (384, (.aload_n 2, 385, 2, 0, .null, []), 0, 0),
  (385, (.aload_n 0, 386, 0, 0, .null, []), 0, 0),
  (386, (.iload_n 3, 387, 3, 0, .null, []), 0, 0),
  (387, (.iconst 1, 388, 0, 0, .int 1, []), 0, 0),
  (388, (.iadd, 389, 0, 0, .null, []), 0, 0),
  (389, (.iaload, 390, 0, 0, .null, []), 0, 0),
  (390, (.aload_n 0, 391, 0, 0, .null, []), 0, 0),
  (391, (.iload_n 3, 392, 3, 0, .null, []), 0, 0),
  (392, (.iconst 2, 393, 0, 0, .int 2, []), 0, 0),
  (393, (.iadd, 394, 0, 0, .null, []), 0, 0),
  (394, (.iaload, 395, 0, 0, .null, []), 0, 0),
  (395, (.invokevirtual 47, 398, 187, 2, .null, []), 5, 84),
  (398, (.pop, 399, 0, 0, .null, []), 0, 0),
  (399, (.goto 879, 402, 1278, 0, .null, []), 0, 0),
  (402, (.aload_n 1, 403, 1, 0, .null, []), 0, 0),
  (403, (.aload_n 0, 404, 0, 0, .null, []), 0, 0),
  (404, (.iload_n 3, 405, 3, 0, .null, []), 0, 0),
  (405, (.iconst 1, 406, 0, 0, .int 1, []), 0, 0),
  (406, (.iadd, 407, 0, 0, .null, []), 0, 0),
  (407, (.iaload, 408, 0, 0, .null, []), 0, 0),
  (408, (.aload_n 0, 409, 0, 0, .null, []), 0, 0),
  (409, (.iload_n 3, 410, 3, 0, .null, []), 0, 0),
  (410, (.iconst 2, 411, 0, 0, .int 2, []), 0, 0),
  (411, (.iadd, 412, 0, 0, .null, []), 0, 0),
  (412, (.iaload, 413, 0, 0, .null, []), 0, 0),
  (413, (.aload_n 0, 414, 0, 0, .null, []), 0, 0),
  (414, (.iload_n 3, 415, 3, 0, .null, []), 0, 0),
  (415, (.iconst 3, 416, 0, 0, .int 3, []), 0, 0),
  (416, (.iadd, 417, 0, 0, .null, []), 0, 0),
  (417, (.iaload, 418, 0, 0, .null, []), 0, 0),
  (418, (.invokevirtual 48, 421, 98, 3, .null, []), 2, 207),
  (421, (.pop, 422, 0, 0, .null, []), 0, 0),
  (422, (.aload_n 2, 423, 2, 0, .null, []), 0, 0),
  (423, (.aload_n 0, 424, 0, 0, .null, []), 0, 0),
  (424, (.iload_n 3, 425, 3, 0, .null, []), 0, 0),
  (425, (.iconst 1, 426, 0, 0, .int 1, []), 0, 0),
  (426, (.iadd, 427, 0, 0, .null, []), 0, 0),
  (427, (.iaload, 428, 0, 0, .null, []), 0, 0),
  (428, (.aload_n 0, 429, 0, 0, .null, []), 0, 0),
  (429, (.iload_n 3, 430, 3, 0, .null, []), 0, 0),
  (430, (.iconst 2, 431, 0, 0, .int 2, []), 0, 0),
  (431, (.iadd, 432, 0, 0, .null, []), 0, 0),
  (432, (.iaload, 433, 0, 0, .null, []), 0, 0),
  (433, (.aload_n 0, 434, 0, 0, .null, []), 0, 0),
  (434, (.iload_n 3, 435, 3, 0, .null, []), 0, 0),
  (435, (.iconst 3, 436, 0, 0, .int 3, []), 0, 0),
  (436, (.iadd, 437, 0, 0, .null, []), 0, 0),
  (437, (.iaload, 438, 0, 0, .null, []), 0, 0),
  (438, (.invokevirtual 52, 441, 189, 3, .null, []), 5, 93),
  (441, (.pop, 442, 0, 0, .null, []), 0, 0),
  (442, (.goto 836, 445, 1278, 0, .null, []), 0, 0),
  (445, (.aload_n 1, 446, 1, 0, .null, []), 0, 0),
  (446, (.aload_n 0, 447, 0, 0, .null, []), 0, 0),
  (447, (.iload_n 3, 448, 3, 0, .null, []), 0, 0),
  (448, (.iconst 1, 449, 0, 0, .int 1, []), 0, 0),
  (449, (.iadd, 450, 0, 0, .null, []), 0, 0),
  (450, (.iaload, 451, 0, 0, .null, []), 0, 0),
  (451, (.invokevirtual 53, 454, 99, 1, .null, []), 2, 219),
  (454, (.pop, 455, 0, 0, .null, []), 0, 0),
  (455, (.aload_n 2, 456, 2, 0, .null, []), 0, 0),
  (456, (.aload_n 0, 457, 0, 0, .null, []), 0, 0),
  (457, (.iload_n 3, 458, 3, 0, .null, []), 0, 0),
  (458, (.iconst 1, 459, 0, 0, .int 1, []), 0, 0),
  (459, (.iadd, 460, 0, 0, .null, []), 0, 0),
  (460, (.iaload, 461, 0, 0, .null, []), 0, 0),
  (461, (.invokevirtual 56, 464, 190, 1, .null, []), 5, 107),
  (464, (.pop, 465, 0, 0, .null, []), 0, 0),
  (465, (.goto 813, 468, 1278, 0, .null, []), 0, 0),
  (468, (.aload_n 1, 469, 1, 0, .null, []), 0, 0),
  (469, (.aload_n 0, 470, 0, 0, .null, []), 0, 0),
  (470, (.iload_n 3, 471, 3, 0, .null, []), 0, 0),
  (471, (.iconst 1, 472, 0, 0, .int 1, []), 0, 0),
  (472, (.iadd, 473, 0, 0, .null, []), 0, 0),
  (473, (.iaload, 474, 0, 0, .null, []), 0, 0),
  (474, (.aload_n 0, 475, 0, 0, .null, []), 0, 0),
  (475, (.iload_n 3, 476, 3, 0, .null, []), 0, 0),
  (476, (.iconst 2, 477, 0, 0, .int 2, []), 0, 0),
  (477, (.iadd, 478, 0, 0, .null, []), 0, 0),
  (478, (.iaload, 479, 0, 0, .null, []), 0, 0),
  (479, (.invokevirtual 57, 482, 100, 2, .null, []), 2, 227),
  (482, (.pop, 483, 0, 0, .null, []), 0, 0),
  (483, (.aload_n 2, 484, 2, 0, .null, []), 0, 0),
  (484, (.aload_n 0, 485, 0, 0, .null, []), 0, 0),
  (485, (.iload_n 3, 486, 3, 0, .null, []), 0, 0),
  (486, (.iconst 1, 487, 0, 0, .int 1, []), 0, 0),
  (487, (.iadd, 488, 0, 0, .null, []), 0, 0),
  (488, (.iaload, 489, 0, 0, .null, []), 0, 0),
  (489, (.aload_n 0, 490, 0, 0, .null, []), 0, 0),
  (490, (.iload_n 3, 491, 3, 0, .null, []), 0, 0),
  (491, (.iconst 2, 492, 0, 0, .int 2, []), 0, 0),
  (492, (.iadd, 493, 0, 0, .null, []), 0, 0),
  (493, (.iaload, 494, 0, 0, .null, []), 0, 0),
  (494, (.invokevirtual 60, 497, 191, 2, .null, []), 5, 119),
  (497, (.pop, 498, 0, 0, .null, []), 0, 0),
  (498, (.goto 780, 501, 1278, 0, .null, []), 0, 0),
  (501, (.aload_n 1, 502, 1, 0, .null, []), 0, 0),
  (502, (.aload_n 0, 503, 0, 0, .null, []), 0, 0),
  (503, (.iload_n 3, 504, 3, 0, .null, []), 0, 0),
  (504, (.iconst 1, 505, 0, 0, .int 1, []), 0, 0),
  (505, (.iadd, 506, 0, 0, .null, []), 0, 0),
  (506, (.iaload, 507, 0, 0, .null, []), 0, 0),
  (507, (.invokevirtual 61, 510, 101, 1, .null, []), 2, 232),
  (510, (.pop, 511, 0, 0, .null, []), 0, 0),
  (511, (.aload_n 2, 512, 2, 0, .null, []), 0, 0),
  (512, (.aload_n 0, 513, 0, 0, .null, []), 0, 0),
  (513, (.iload_n 3, 514, 3, 0, .null, []), 0, 0),
  (514, (.iconst 1, 515, 0, 0, .int 1, []), 0, 0),
  (515, (.iadd, 516, 0, 0, .null, []), 0, 0),
  (516, (.iaload, 517, 0, 0, .null, []), 0, 0),
  (517, (.invokevirtual 64, 520, 193, 1, .null, []), 5, 123),
  (520, (.pop, 521, 0, 0, .null, []), 0, 0),
  (521, (.goto 757, 524, 1278, 0, .null, []), 0, 0),
  (524, (.aload_n 1, 525, 1, 0, .null, []), 0, 0),
  (525, (.aload_n 0, 526, 0, 0, .null, []), 0, 0),
  (526, (.iload_n 3, 527, 3, 0, .null, []), 0, 0),
  (527, (.iconst 1, 528, 0, 0, .int 1, []), 0, 0),
  (528, (.iadd, 529, 0, 0, .null, []), 0, 0),
  (529, (.iaload, 530, 0, 0, .null, []), 0, 0),
  (530, (.aload_n 0, 531, 0, 0, .null, []), 0, 0),
  (531, (.iload_n 3, 532, 3, 0, .null, []), 0, 0),
  (532, (.iconst 2, 533, 0, 0, .int 2, []), 0, 0),
  (533, (.iadd, 534, 0, 0, .null, []), 0, 0),
  (534, (.iaload, 535, 0, 0, .null, []), 0, 0),
  (535, (.invokevirtual 65, 538, 102, 2, .null, []), 2, 237),
  (538, (.pop, 539, 0, 0, .null, []), 0, 0),
  (539, (.aload_n 2, 540, 2, 0, .null, []), 0, 0),
  (540, (.aload_n 0, 541, 0, 0, .null, []), 0, 0),
  (541, (.iload_n 3, 542, 3, 0, .null, []), 0, 0),
  (542, (.iconst 1, 543, 0, 0, .int 1, []), 0, 0),
  (543, (.iadd, 544, 0, 0, .null, []), 0, 0),
  (544, (.iaload, 545, 0, 0, .null, []), 0, 0),
  (545, (.aload_n 0, 546, 0, 0, .null, []), 0, 0),
  (546, (.iload_n 3, 547, 3, 0, .null, []), 0, 0),
  (547, (.iconst 2, 548, 0, 0, .int 2, []), 0, 0),
  (548, (.iadd, 549, 0, 0, .null, []), 0, 0),
  (549, (.iaload, 550, 0, 0, .null, []), 0, 0),
  (550, (.invokevirtual 68, 553, 194, 2, .null, []), 5, 131),
  (553, (.pop, 554, 0, 0, .null, []), 0, 0),
  (554, (.goto 724, 557, 1278, 0, .null, []), 0, 0),
  (557, (.aload_n 1, 558, 1, 0, .null, []), 0, 0),
  (558, (.aload_n 0, 559, 0, 0, .null, []), 0, 0),
  (559, (.iload_n 3, 560, 3, 0, .null, []), 0, 0),
  (560, (.iconst 1, 561, 0, 0, .int 1, []), 0, 0),
  (561, (.iadd, 562, 0, 0, .null, []), 0, 0),
  (562, (.iaload, 563, 0, 0, .null, []), 0, 0),
  (563, (.invokevirtual 69, 566, 103, 1, .null, []), 3, 2),
  (566, (.pop, 567, 0, 0, .null, []), 0, 0),
  (567, (.aload_n 2, 568, 2, 0, .null, []), 0, 0),
  (568, (.aload_n 0, 569, 0, 0, .null, []), 0, 0),
  (569, (.iload_n 3, 570, 3, 0, .null, []), 0, 0),
  (570, (.iconst 1, 571, 0, 0, .int 1, []), 0, 0),
  (571, (.iadd, 572, 0, 0, .null, []), 0, 0),
  (572, (.iaload, 573, 0, 0, .null, []), 0, 0),
  (573, (.invokevirtual 72, 576, 195, 1, .null, []), 5, 135),
  (576, (.pop, 577, 0, 0, .null, []), 0, 0),
  (577, (.goto 701, 580, 1278, 0, .null, []), 0, 0),
  (580, (.aload_n 1, 581, 1, 0, .null, []), 0, 0),
  (581, (.aload_n 0, 582, 0, 0, .null, []), 0, 0),
  (582, (.iload_n 3, 583, 3, 0, .null, []), 0, 0),
  (583, (.iconst 1, 584, 0, 0, .int 1, []), 0, 0),
  (584, (.iadd, 585, 0, 0, .null, []), 0, 0),
  (585, (.iaload, 586, 0, 0, .null, []), 0, 0),
  (586, (.aload_n 0, 587, 0, 0, .null, []), 0, 0),
  (587, (.iload_n 3, 588, 3, 0, .null, []), 0, 0),
  (588, (.iconst 2, 589, 0, 0, .int 2, []), 0, 0),
  (589, (.iadd, 590, 0, 0, .null, []), 0, 0),
  (590, (.iaload, 591, 0, 0, .null, []), 0, 0),
  (591, (.invokevirtual 73, 594, 104, 2, .null, []), 3, 6),
  (594, (.pop, 595, 0, 0, .null, []), 0, 0),
  (595, (.aload_n 2, 596, 2, 0, .null, []), 0, 0),
  (596, (.aload_n 0, 597, 0, 0, .null, []), 0, 0),
  (597, (.iload_n 3, 598, 3, 0, .null, []), 0, 0),
  (598, (.iconst 1, 599, 0, 0, .int 1, []), 0, 0),
  (599, (.iadd, 600, 0, 0, .null, []), 0, 0),
  (600, (.iaload, 601, 0, 0, .null, []), 0, 0),
  (601, (.aload_n 0, 602, 0, 0, .null, []), 0, 0),
  (602, (.iload_n 3, 603, 3, 0, .null, []), 0, 0),
  (603, (.iconst 2, 604, 0, 0, .int 2, []), 0, 0),
  (604, (.iadd, 605, 0, 0, .null, []), 0, 0),
  (605, (.iaload, 606, 0, 0, .null, []), 0, 0),
  (606, (.invokevirtual 76, 609, 196, 2, .null, []), 5, 140),
  (609, (.pop, 610, 0, 0, .null, []), 0, 0),
  (610, (.goto 668, 613, 1278, 0, .null, []), 0, 0),
  (613, (.aload_n 1, 614, 1, 0, .null, []), 0, 0),
  (614, (.aload_n 0, 615, 0, 0, .null, []), 0, 0),
  (615, (.iload_n 3, 616, 3, 0, .null, []), 0, 0),
  (616, (.iconst 1, 617, 0, 0, .int 1, []), 0, 0),
  (617, (.iadd, 618, 0, 0, .null, []), 0, 0),
  (618, (.iaload, 619, 0, 0, .null, []), 0, 0),
  (619, (.invokevirtual 77, 622, 105, 1, .null, []), 3, 12),
  (622, (.pop, 623, 0, 0, .null, []), 0, 0),
  (623, (.aload_n 2, 624, 2, 0, .null, []), 0, 0),
  (624, (.aload_n 0, 625, 0, 0, .null, []), 0, 0),
  (625, (.iload_n 3, 626, 3, 0, .null, []), 0, 0),
  (626, (.iconst 1, 627, 0, 0, .int 1, []), 0, 0),
  (627, (.iadd, 628, 0, 0, .null, []), 0, 0),
  (628, (.iaload, 629, 0, 0, .null, []), 0, 0),
  (629, (.invokevirtual 80, 632, 197, 1, .null, []), 5, 148),
  (632, (.pop, 633, 0, 0, .null, []), 0, 0),
  (633, (.goto 645, 636, 1278, 0, .null, []), 0, 0),
  (636, (.aload_n 1, 637, 1, 0, .null, []), 0, 0),
  (637, (.aload_n 0, 638, 0, 0, .null, []), 0, 0),
  (638, (.iload_n 3, 639, 3, 0, .null, []), 0, 0),
  (639, (.iconst 1, 640, 0, 0, .int 1, []), 0, 0),
  (640, (.iadd, 641, 0, 0, .null, []), 0, 0),
  (641, (.iaload, 642, 0, 0, .null, []), 0, 0),
  (642, (.invokevirtual 81, 645, 106, 1, .null, []), 3, 25),
  (645, (.pop, 646, 0, 0, .null, []), 0, 0),
  (646, (.aload_n 2, 647, 2, 0, .null, []), 0, 0),
  (647, (.aload_n 0, 648, 0, 0, .null, []), 0, 0),
  (648, (.iload_n 3, 649, 3, 0, .null, []), 0, 0),
  (649, (.iconst 1, 650, 0, 0, .int 1, []), 0, 0),
  (650, (.iadd, 651, 0, 0, .null, []), 0, 0),
  (651, (.iaload, 652, 0, 0, .null, []), 0, 0),
  (652, (.invokevirtual 84, 655, 203, 1, .null, []), 5, 157),
  (655, (.pop, 656, 0, 0, .null, []), 0, 0),
  (656, (.goto 622, 659, 1278, 0, .null, []), 0, 0),
  (659, (.aload_n 1, 660, 1, 0, .null, []), 0, 0),
  (660, (.aload_n 0, 661, 0, 0, .null, []), 0, 0),
  (661, (.iload_n 3, 662, 3, 0, .null, []), 0, 0),
  (662, (.iconst 1, 663, 0, 0, .int 1, []), 0, 0),
  (663, (.iadd, 664, 0, 0, .null, []), 0, 0),
  (664, (.iaload, 665, 0, 0, .null, []), 0, 0),
  (665, (.invokevirtual 85, 668, 107, 1, .null, []), 3, 69),
  (668, (.pop, 669, 0, 0, .null, []), 0, 0),
  (669, (.aload_n 2, 670, 2, 0, .null, []), 0, 0),
  (670, (.aload_n 0, 671, 0, 0, .null, []), 0, 0),
  (671, (.iload_n 3, 672, 3, 0, .null, []), 0, 0),
  (672, (.iconst 1, 673, 0, 0, .int 1, []), 0, 0),
  (673, (.iadd, 674, 0, 0, .null, []), 0, 0),
  (674, (.iaload, 675, 0, 0, .null, []), 0, 0),
  (675, (.invokevirtual 88, 678, 205, 1, .null, []), 5, 182),
  (678, (.pop, 679, 0, 0, .null, []), 0, 0),
  (679, (.goto 599, 682, 1278, 0, .null, []), 0, 0),
  (682, (.aload_n 1, 683, 1, 0, .null, []), 0, 0),
  (683, (.aload_n 0, 684, 0, 0, .null, []), 0, 0),
  (684, (.iload_n 3, 685, 3, 0, .null, []), 0, 0),
  (685, (.iconst 1, 686, 0, 0, .int 1, []), 0, 0),
  (686, (.iadd, 687, 0, 0, .null, []), 0, 0),
  (687, (.iaload, 688, 0, 0, .null, []), 0, 0),
  (688, (.invokevirtual 89, 691, 108, 1, .null, []), 3, 86),
  (691, (.pop, 692, 0, 0, .null, []), 0, 0),
  (692, (.aload_n 2, 693, 2, 0, .null, []), 0, 0),
  (693, (.aload_n 0, 694, 0, 0, .null, []), 0, 0),
  (694, (.iload_n 3, 695, 3, 0, .null, []), 0, 0),
  (695, (.iconst 1, 696, 0, 0, .int 1, []), 0, 0),
  (696, (.iadd, 697, 0, 0, .null, []), 0, 0),
  (697, (.iaload, 698, 0, 0, .null, []), 0, 0),
  (698, (.invokevirtual 92, 701, 206, 1, .null, []), 5, 190),
  (701, (.pop, 702, 0, 0, .null, []), 0, 0),
  (702, (.goto 576, 705, 1278, 0, .null, []), 0, 0),
  (705, (.aload_n 1, 706, 1, 0, .null, []), 0, 0),
  (706, (.invokevirtual 93, 709, 109, 0, .null, []), 3, 91),
  (709, (.pop, 710, 0, 0, .null, []), 0, 0),
  (710, (.aload_n 2, 711, 2, 0, .null, []), 0, 0),
  (711, (.invokevirtual 96, 714, 209, 0, .null, []), 5, 194),
  (714, (.pop, 715, 0, 0, .null, []), 0, 0),
  (715, (.goto 563, 718, 1278, 0, .null, []), 0, 0),
  (718, (.aload_n 1, 719, 1, 0, .null, []), 0, 0),
  (719, (.invokevirtual 97, 722, 110, 0, .null, []), 3, 99),
  (722, (.pop, 723, 0, 0, .null, []), 0, 0),
  (723, (.aload_n 2, 724, 2, 0, .null, []), 0, 0),
  (724, (.invokevirtual 100, 727, 210, 0, .null, []), 5, 205),
  (727, (.pop, 728, 0, 0, .null, []), 0, 0),
  (728, (.goto 550, 731, 1278, 0, .null, []), 0, 0),
  (731, (.aload_n 1, 732, 1, 0, .null, []), 0, 0),
  (732, (.invokevirtual 101, 735, 111, 0, .null, []), 3, 107),
  (735, (.pop, 736, 0, 0, .null, []), 0, 0),
  (736, (.aload_n 2, 737, 2, 0, .null, []), 0, 0),
  (737, (.invokevirtual 104, 740, 211, 0, .null, []), 5, 209),
  (740, (.pop, 741, 0, 0, .null, []), 0, 0),
  (741, (.goto 537, 744, 1278, 0, .null, []), 0, 0),
  (744, (.aload_n 1, 745, 1, 0, .null, []), 0, 0),
  (745, (.aload_n 0, 746, 0, 0, .null, []), 0, 0),
  (746, (.iload_n 3, 747, 3, 0, .null, []), 0, 0),
  (747, (.iconst 1, 748, 0, 0, .int 1, []), 0, 0),
  (748, (.iadd, 749, 0, 0, .null, []), 0, 0),
  (749, (.iaload, 750, 0, 0, .null, []), 0, 0),
  (750, (.invokevirtual 105, 753, 112, 1, .null, []), 3, 120),
  (753, (.pop, 754, 0, 0, .null, []), 0, 0),
  (754, (.aload_n 2, 755, 2, 0, .null, []), 0, 0),
  (755, (.aload_n 0, 756, 0, 0, .null, []), 0, 0),
  (756, (.iload_n 3, 757, 3, 0, .null, []), 0, 0),
  (757, (.iconst 1, 758, 0, 0, .int 1, []), 0, 0),
  (758, (.iadd, 759, 0, 0, .null, []), 0, 0),
  (759, (.iaload, 760, 0, 0, .null, []), 0, 0),
  (760, (.invokevirtual 108, 763, 215, 1, .null, []), 5, 213),
  (763, (.pop, 764, 0, 0, .null, []), 0, 0),
  (764, (.goto 514, 767, 1278, 0, .null, []), 0, 0),
  (767, (.aload_n 1, 768, 1, 0, .null, []), 0, 0),
  (768, (.invokevirtual 109, 771, 113, 0, .null, []), 3, 139),
  (771, (.pop, 772, 0, 0, .null, []), 0, 0),
  (772, (.aload_n 2, 773, 2, 0, .null, []), 0, 0),
  (773, (.invokevirtual 112, 776, 216, 0, .null, []), 5, 229),
  (776, (.pop, 777, 0, 0, .null, []), 0, 0),
  (777, (.goto 501, 780, 1278, 0, .null, []), 0, 0),
  (780, (.aload_n 1, 781, 1, 0, .null, []), 0, 0),
  (781, (.aload_n 0, 782, 0, 0, .null, []), 0, 0),
  (782, (.iload_n 3, 783, 3, 0, .null, []), 0, 0),
  (783, (.iconst 1, 784, 0, 0, .int 1, []), 0, 0),
  (784, (.iadd, 785, 0, 0, .null, []), 0, 0),
  (785, (.iaload, 786, 0, 0, .null, []), 0, 0),
  (786, (.invokevirtual 113, 789, 114, 1, .null, []), 3, 143),
  (789, (.pop, 790, 0, 0, .null, []), 0, 0),
  (790, (.aload_n 2, 791, 2, 0, .null, []), 0, 0),
  (791, (.aload_n 0, 792, 0, 0, .null, []), 0, 0),
  (792, (.iload_n 3, 793, 3, 0, .null, []), 0, 0),
  (793, (.iconst 1, 794, 0, 0, .int 1, []), 0, 0),
  (794, (.iadd, 795, 0, 0, .null, []), 0, 0),
  (795, (.iaload, 796, 0, 0, .null, []), 0, 0),
  (796, (.invokevirtual 116, 799, 217, 1, .null, []), 5, 233),
  (799, (.pop, 800, 0, 0, .null, []), 0, 0),
  (800, (.goto 478, 803, 1278, 0, .null, []), 0, 0),
  (803, (.aload_n 1, 804, 1, 0, .null, []), 0, 0),
  (804, (.aload_n 0, 805, 0, 0, .null, []), 0, 0),
  (805, (.iload_n 3, 806, 3, 0, .null, []), 0, 0),
  (806, (.iconst 1, 807, 0, 0, .int 1, []), 0, 0),
  (807, (.iadd, 808, 0, 0, .null, []), 0, 0),
  (808, (.iaload, 809, 0, 0, .null, []), 0, 0),
  (809, (.invokevirtual 117, 812, 115, 1, .null, []), 3, 153),
  (812, (.pop, 813, 0, 0, .null, []), 0, 0),
  (813, (.aload_n 2, 814, 2, 0, .null, []), 0, 0),
  (814, (.aload_n 0, 815, 0, 0, .null, []), 0, 0),
  (815, (.iload_n 3, 816, 3, 0, .null, []), 0, 0),
  (816, (.iconst 1, 817, 0, 0, .int 1, []), 0, 0),
  (817, (.iadd, 818, 0, 0, .null, []), 0, 0),
  (818, (.iaload, 819, 0, 0, .null, []), 0, 0),
  (819, (.invokevirtual 120, 822, 218, 1, .null, []), 5, 237),
  (822, (.pop, 823, 0, 0, .null, []), 0, 0),
  (823, (.goto 455, 826, 1278, 0, .null, []), 0, 0),
  (826, (.aload_n 1, 827, 1, 0, .null, []), 0, 0),
  (827, (.aload_n 0, 828, 0, 0, .null, []), 0, 0),
  (828, (.iload_n 3, 829, 3, 0, .null, []), 0, 0),
  (829, (.iconst 1, 830, 0, 0, .int 1, []), 0, 0),
  (830, (.iadd, 831, 0, 0, .null, []), 0, 0),
  (831, (.iaload, 832, 0, 0, .null, []), 0, 0),
  (832, (.aload_n 0, 833, 0, 0, .null, []), 0, 0),
  (833, (.iload_n 3, 834, 3, 0, .null, []), 0, 0),
  (834, (.iconst 2, 835, 0, 0, .int 2, []), 0, 0),
  (835, (.iadd, 836, 0, 0, .null, []), 0, 0),
  (836, (.iaload, 837, 0, 0, .null, []), 0, 0),
  (837, (.aload_n 0, 838, 0, 0, .null, []), 0, 0),
  (838, (.iload_n 3, 839, 3, 0, .null, []), 0, 0),
  (839, (.iconst 3, 840, 0, 0, .int 3, []), 0, 0),
  (840, (.iadd, 841, 0, 0, .null, []), 0, 0),
  (841, (.iaload, 842, 0, 0, .null, []), 0, 0),
  (842, (.invokevirtual 121, 845, 116, 3, .null, []), 3, 161),
  (845, (.pop2, 846, 0, 0, .null, []), 0, 0),
  (846, (.aload_n 2, 847, 2, 0, .null, []), 0, 0),
  (847, (.aload_n 0, 848, 0, 0, .null, []), 0, 0),
  (848, (.iload_n 3, 849, 3, 0, .null, []), 0, 0),
  (849, (.iconst 1, 850, 0, 0, .int 1, []), 0, 0),
  (850, (.iadd, 851, 0, 0, .null, []), 0, 0),
  (851, (.iaload, 852, 0, 0, .null, []), 0, 0),
  (852, (.aload_n 0, 853, 0, 0, .null, []), 0, 0),
  (853, (.iload_n 3, 854, 3, 0, .null, []), 0, 0),
  (854, (.iconst 2, 855, 0, 0, .int 2, []), 0, 0),
  (855, (.iadd, 856, 0, 0, .null, []), 0, 0),
  (856, (.iaload, 857, 0, 0, .null, []), 0, 0),
  (857, (.aload_n 0, 858, 0, 0, .null, []), 0, 0),
  (858, (.iload_n 3, 859, 3, 0, .null, []), 0, 0),
  (859, (.iconst 3, 860, 0, 0, .int 3, []), 0, 0),
  (860, (.iadd, 861, 0, 0, .null, []), 0, 0),
  (861, (.iaload, 862, 0, 0, .null, []), 0, 0),
  (862, (.invokevirtual 125, 865, 222, 3, .null, []), 6, 1),
  (865, (.pop2, 866, 0, 0, .null, []), 0, 0),
  (866, (.goto 412, 869, 1278, 0, .null, []), 0, 0),
  (869, (.aload_n 1, 870, 1, 0, .null, []), 0, 0),
  (870, (.aload_n 0, 871, 0, 0, .null, []), 0, 0),
  (871, (.iload_n 3, 872, 3, 0, .null, []), 0, 0),
  (872, (.iconst 1, 873, 0, 0, .int 1, []), 0, 0),
  (873, (.iadd, 874, 0, 0, .null, []), 0, 0),
  (874, (.iaload, 875, 0, 0, .null, []), 0, 0),
  (875, (.aload_n 0, 876, 0, 0, .null, []), 0, 0),
  (876, (.iload_n 3, 877, 3, 0, .null, []), 0, 0),
  (877, (.iconst 2, 878, 0, 0, .int 2, []), 0, 0),
  (878, (.iadd, 879, 0, 0, .null, []), 0, 0),
  (879, (.iaload, 880, 0, 0, .null, []), 0, 0),
  (880, (.invokevirtual 126, 883, 117, 2, .null, []), 3, 184),
  (883, (.pop2, 884, 0, 0, .null, []), 0, 0),
  (884, (.aload_n 2, 885, 2, 0, .null, []), 0, 0),
  (885, (.aload_n 0, 886, 0, 0, .null, []), 0, 0),
  (886, (.iload_n 3, 887, 3, 0, .null, []), 0, 0),
  (887, (.iconst 1, 888, 0, 0, .int 1, []), 0, 0),
  (888, (.iadd, 889, 0, 0, .null, []), 0, 0),
  (889, (.iaload, 890, 0, 0, .null, []), 0, 0),
  (890, (.aload_n 0, 891, 0, 0, .null, []), 0, 0),
  (891, (.iload_n 3, 892, 3, 0, .null, []), 0, 0),
  (892, (.iconst 2, 893, 0, 0, .int 2, []), 0, 0),
  (893, (.iadd, 894, 0, 0, .null, []), 0, 0),
  (894, (.iaload, 895, 0, 0, .null, []), 0, 0),
  (895, (.invokevirtual 130, 898, 223, 2, .null, []), 6, 17),
  (898, (.pop2, 899, 0, 0, .null, []), 0, 0),
  (899, (.goto 379, 902, 1278, 0, .null, []), 0, 0),
  (902, (.aload_n 1, 903, 1, 0, .null, []), 0, 0),
  (903, (.aload_n 0, 904, 0, 0, .null, []), 0, 0),
  (904, (.iload_n 3, 905, 3, 0, .null, []), 0, 0),
  (905, (.iconst 1, 906, 0, 0, .int 1, []), 0, 0),
  (906, (.iadd, 907, 0, 0, .null, []), 0, 0),
  (907, (.iaload, 908, 0, 0, .null, []), 0, 0),
  (908, (.aload_n 0, 909, 0, 0, .null, []), 0, 0),
  (909, (.iload_n 3, 910, 3, 0, .null, []), 0, 0),
  (910, (.iconst 2, 911, 0, 0, .int 2, []), 0, 0),
  (911, (.iadd, 912, 0, 0, .null, []), 0, 0),
  (912, (.iaload, 913, 0, 0, .null, []), 0, 0),
  (913, (.invokevirtual 131, 916, 118, 2, .null, []), 3, 188),
  (916, (.pop2, 917, 0, 0, .null, []), 0, 0),
  (917, (.aload_n 2, 918, 2, 0, .null, []), 0, 0),
  (918, (.aload_n 0, 919, 0, 0, .null, []), 0, 0),
  (919, (.iload_n 3, 920, 3, 0, .null, []), 0, 0),
  (920, (.iconst 1, 921, 0, 0, .int 1, []), 0, 0),
  (921, (.iadd, 922, 0, 0, .null, []), 0, 0),
  (922, (.iaload, 923, 0, 0, .null, []), 0, 0),
  (923, (.aload_n 0, 924, 0, 0, .null, []), 0, 0),
  (924, (.iload_n 3, 925, 3, 0, .null, []), 0, 0),
  (925, (.iconst 2, 926, 0, 0, .int 2, []), 0, 0),
  (926, (.iadd, 927, 0, 0, .null, []), 0, 0),
  (927, (.iaload, 928, 0, 0, .null, []), 0, 0),
  (928, (.invokevirtual 134, 931, 224, 2, .null, []), 6, 21),
  (931, (.pop2, 932, 0, 0, .null, []), 0, 0),
  (932, (.goto 346, 935, 1278, 0, .null, []), 0, 0),
  (935, (.aload_n 1, 936, 1, 0, .null, []), 0, 0),
  (936, (.aload_n 0, 937, 0, 0, .null, []), 0, 0),
  (937, (.iload_n 3, 938, 3, 0, .null, []), 0, 0),
  (938, (.iconst 1, 939, 0, 0, .int 1, []), 0, 0),
  (939, (.iadd, 940, 0, 0, .null, []), 0, 0),
  (940, (.iaload, 941, 0, 0, .null, []), 0, 0),
  (941, (.aload_n 0, 942, 0, 0, .null, []), 0, 0),
  (942, (.iload_n 3, 943, 3, 0, .null, []), 0, 0),
  (943, (.iconst 2, 944, 0, 0, .int 2, []), 0, 0),
  (944, (.iadd, 945, 0, 0, .null, []), 0, 0),
  (945, (.iaload, 946, 0, 0, .null, []), 0, 0),
  (946, (.invokevirtual 135, 949, 119, 2, .null, []), 3, 192),
  (949, (.pop, 950, 0, 0, .null, []), 0, 0),
  (950, (.aload_n 2, 951, 2, 0, .null, []), 0, 0),
  (951, (.aload_n 0, 952, 0, 0, .null, []), 0, 0),
  (952, (.iload_n 3, 953, 3, 0, .null, []), 0, 0),
  (953, (.iconst 1, 954, 0, 0, .int 1, []), 0, 0),
  (954, (.iadd, 955, 0, 0, .null, []), 0, 0),
  (955, (.iaload, 956, 0, 0, .null, []), 0, 0),
  (956, (.aload_n 0, 957, 0, 0, .null, []), 0, 0),
  (957, (.iload_n 3, 958, 3, 0, .null, []), 0, 0),
  (958, (.iconst 2, 959, 0, 0, .int 2, []), 0, 0),
  (959, (.iadd, 960, 0, 0, .null, []), 0, 0),
  (960, (.iaload, 961, 0, 0, .null, []), 0, 0),
  (961, (.invokevirtual 138, 964, 225, 2, .null, []), 6, 25),
  (964, (.pop, 965, 0, 0, .null, []), 0, 0),
  (965, (.goto 313, 968, 1278, 0, .null, []), 0, 0),
  (968, (.aload_n 1, 969, 1, 0, .null, []), 0, 0),
  (969, (.aload_n 0, 970, 0, 0, .null, []), 0, 0),
  (970, (.iload_n 3, 971, 3, 0, .null, []), 0, 0),
  (971, (.iconst 1, 972, 0, 0, .int 1, []), 0, 0),
  (972, (.iadd, 973, 0, 0, .null, []), 0, 0),
  (973, (.iaload, 974, 0, 0, .null, []), 0, 0),
  (974, (.invokevirtual 139, 977, 120, 1, .null, []), 3, 200),
  (977, (.pop, 978, 0, 0, .null, []), 0, 0),
  (978, (.aload_n 2, 979, 2, 0, .null, []), 0, 0),
  (979, (.aload_n 0, 980, 0, 0, .null, []), 0, 0),
  (980, (.iload_n 3, 981, 3, 0, .null, []), 0, 0),
  (981, (.iconst 1, 982, 0, 0, .int 1, []), 0, 0),
  (982, (.iadd, 983, 0, 0, .null, []), 0, 0),
  (983, (.iaload, 984, 0, 0, .null, []), 0, 0),
  (984, (.invokevirtual 142, 987, 226, 1, .null, []), 6, 29),
  (987, (.pop, 988, 0, 0, .null, []), 0, 0),
  (988, (.goto 290, 991, 1278, 0, .null, []), 0, 0),
  (991, (.aload_n 1, 992, 1, 0, .null, []), 0, 0),
  (992, (.aload_n 0, 993, 0, 0, .null, []), 0, 0),
  (993, (.iload_n 3, 994, 3, 0, .null, []), 0, 0),
  (994, (.iconst 1, 995, 0, 0, .int 1, []), 0, 0),
  (995, (.iadd, 996, 0, 0, .null, []), 0, 0),
  (996, (.iaload, 997, 0, 0, .null, []), 0, 0),
  (997, (.invokevirtual 143, 1000, 121, 1, .null, []), 3, 204),
  (1000, (.pop, 1001, 0, 0, .null, []), 0, 0),
  (1001, (.aload_n 2, 1002, 2, 0, .null, []), 0, 0),
  (1002, (.aload_n 0, 1003, 0, 0, .null, []), 0, 0),
  (1003, (.iload_n 3, 1004, 3, 0, .null, []), 0, 0),
  (1004, (.iconst 1, 1005, 0, 0, .int 1, []), 0, 0),
  (1005, (.iadd, 1006, 0, 0, .null, []), 0, 0),
  (1006, (.iaload, 1007, 0, 0, .null, []), 0, 0),
  (1007, (.invokevirtual 146, 1010, 228, 1, .null, []), 6, 33),
  (1010, (.pop, 1011, 0, 0, .null, []), 0, 0),
  (1011, (.goto 267, 1014, 1278, 0, .null, []), 0, 0),
  (1014, (.aload_n 1, 1015, 1, 0, .null, []), 0, 0),
  (1015, (.aload_n 0, 1016, 0, 0, .null, []), 0, 0),
  (1016, (.iload_n 3, 1017, 3, 0, .null, []), 0, 0),
  (1017, (.iconst 1, 1018, 0, 0, .int 1, []), 0, 0),
  (1018, (.iadd, 1019, 0, 0, .null, []), 0, 0),
  (1019, (.iaload, 1020, 0, 0, .null, []), 0, 0),
  (1020, (.aload_n 0, 1021, 0, 0, .null, []), 0, 0),
  (1021, (.iload_n 3, 1022, 3, 0, .null, []), 0, 0),
  (1022, (.iconst 2, 1023, 0, 0, .int 2, []), 0, 0),
  (1023, (.iadd, 1024, 0, 0, .null, []), 0, 0),
  (1024, (.iaload, 1025, 0, 0, .null, []), 0, 0),
  (1025, (.aload_n 0, 1026, 0, 0, .null, []), 0, 0),
  (1026, (.iload_n 3, 1027, 3, 0, .null, []), 0, 0),
  (1027, (.iconst 3, 1028, 0, 0, .int 3, []), 0, 0),
  (1028, (.iadd, 1029, 0, 0, .null, []), 0, 0),
  (1029, (.iaload, 1030, 0, 0, .null, []), 0, 0),
  (1030, (.invokevirtual 147, 1033, 122, 3, .null, []), 3, 225),
  (1033, (.pop, 1034, 0, 0, .null, []), 0, 0),
  (1034, (.aload_n 2, 1035, 2, 0, .null, []), 0, 0),
  (1035, (.aload_n 0, 1036, 0, 0, .null, []), 0, 0),
  (1036, (.iload_n 3, 1037, 3, 0, .null, []), 0, 0),
  (1037, (.iconst 1, 1038, 0, 0, .int 1, []), 0, 0),
  (1038, (.iadd, 1039, 0, 0, .null, []), 0, 0),
  (1039, (.iaload, 1040, 0, 0, .null, []), 0, 0),
  (1040, (.aload_n 0, 1041, 0, 0, .null, []), 0, 0),
  (1041, (.iload_n 3, 1042, 3, 0, .null, []), 0, 0),
  (1042, (.iconst 2, 1043, 0, 0, .int 2, []), 0, 0),
  (1043, (.iadd, 1044, 0, 0, .null, []), 0, 0),
  (1044, (.iaload, 1045, 0, 0, .null, []), 0, 0),
  (1045, (.aload_n 0, 1046, 0, 0, .null, []), 0, 0),
  (1046, (.iload_n 3, 1047, 3, 0, .null, []), 0, 0),
  (1047, (.iconst 3, 1048, 0, 0, .int 3, []), 0, 0),
  (1048, (.iadd, 1049, 0, 0, .null, []), 0, 0),
  (1049, (.iaload, 1050, 0, 0, .null, []), 0, 0),
  (1050, (.invokevirtual 150, 1053, 229, 3, .null, []), 6, 42),
  (1053, (.pop, 1054, 0, 0, .null, []), 0, 0),
  (1054, (.goto 224, 1057, 1278, 0, .null, []), 0, 0),
  (1057, (.aload_n 1, 1058, 1, 0, .null, []), 0, 0),
  (1058, (.aload_n 0, 1059, 0, 0, .null, []), 0, 0),
  (1059, (.iload_n 3, 1060, 3, 0, .null, []), 0, 0),
  (1060, (.iconst 1, 1061, 0, 0, .int 1, []), 0, 0),
  (1061, (.iadd, 1062, 0, 0, .null, []), 0, 0),
  (1062, (.iaload, 1063, 0, 0, .null, []), 0, 0),
  (1063, (.invokevirtual 151, 1066, 123, 1, .null, []), 3, 231),
  (1066, (.pop, 1067, 0, 0, .null, []), 0, 0),
  (1067, (.aload_n 2, 1068, 2, 0, .null, []), 0, 0),
  (1068, (.aload_n 0, 1069, 0, 0, .null, []), 0, 0),
  (1069, (.iload_n 3, 1070, 3, 0, .null, []), 0, 0),
  (1070, (.iconst 1, 1071, 0, 0, .int 1, []), 0, 0),
  (1071, (.iadd, 1072, 0, 0, .null, []), 0, 0),
  (1072, (.iaload, 1073, 0, 0, .null, []), 0, 0),
  (1073, (.invokevirtual 154, 1076, 231, 1, .null, []), 6, 47),
  (1076, (.pop, 1077, 0, 0, .null, []), 0, 0),
  (1077, (.goto 201, 1080, 1278, 0, .null, []), 0, 0),
  (1080, (.aload_n 1, 1081, 1, 0, .null, []), 0, 0),
  (1081, (.aload_n 0, 1082, 0, 0, .null, []), 0, 0),
  (1082, (.iload_n 3, 1083, 3, 0, .null, []), 0, 0),
  (1083, (.iconst 1, 1084, 0, 0, .int 1, []), 0, 0),
  (1084, (.iadd, 1085, 0, 0, .null, []), 0, 0),
  (1085, (.iaload, 1086, 0, 0, .null, []), 0, 0),
  (1086, (.invokevirtual 155, 1089, 124, 1, .null, []), 4, 2),
  (1089, (.pop, 1090, 0, 0, .null, []), 0, 0),
  (1090, (.aload_n 2, 1091, 2, 0, .null, []), 0, 0),
  (1091, (.aload_n 0, 1092, 0, 0, .null, []), 0, 0),
  (1092, (.iload_n 3, 1093, 3, 0, .null, []), 0, 0),
  (1093, (.iconst 1, 1094, 0, 0, .int 1, []), 0, 0),
  (1094, (.iadd, 1095, 0, 0, .null, []), 0, 0),
  (1095, (.iaload, 1096, 0, 0, .null, []), 0, 0),
  (1096, (.invokevirtual 158, 1099, 232, 1, .null, []), 6, 55),
  (1099, (.pop, 1100, 0, 0, .null, []), 0, 0),
  (1100, (.goto 178, 1103, 1278, 0, .null, []), 0, 0),
  (1103, (.aload_n 1, 1104, 1, 0, .null, []), 0, 0),
  (1104, (.aload_n 0, 1105, 0, 0, .null, []), 0, 0),
  (1105, (.iload_n 3, 1106, 3, 0, .null, []), 0, 0),
  (1106, (.iconst 1, 1107, 0, 0, .int 1, []), 0, 0),
  (1107, (.iadd, 1108, 0, 0, .null, []), 0, 0),
  (1108, (.iaload, 1109, 0, 0, .null, []), 0, 0),
  (1109, (.aload_n 0, 1110, 0, 0, .null, []), 0, 0),
  (1110, (.iload_n 3, 1111, 3, 0, .null, []), 0, 0),
  (1111, (.iconst 2, 1112, 0, 0, .int 2, []), 0, 0),
  (1112, (.iadd, 1113, 0, 0, .null, []), 0, 0),
  (1113, (.iaload, 1114, 0, 0, .null, []), 0, 0),
  (1114, (.aload_n 0, 1115, 0, 0, .null, []), 0, 0),
  (1115, (.iload_n 3, 1116, 3, 0, .null, []), 0, 0),
  (1116, (.iconst 3, 1117, 0, 0, .int 3, []), 0, 0),
  (1117, (.iadd, 1118, 0, 0, .null, []), 0, 0),
  (1118, (.iaload, 1119, 0, 0, .null, []), 0, 0),
  (1119, (.invokevirtual 159, 1122, 125, 3, .null, []), 4, 6),
  (1122, (.pop, 1123, 0, 0, .null, []), 0, 0),
  (1123, (.aload_n 2, 1124, 2, 0, .null, []), 0, 0),
  (1124, (.aload_n 0, 1125, 0, 0, .null, []), 0, 0),
  (1125, (.iload_n 3, 1126, 3, 0, .null, []), 0, 0),
  (1126, (.iconst 1, 1127, 0, 0, .int 1, []), 0, 0),
  (1127, (.iadd, 1128, 0, 0, .null, []), 0, 0),
  (1128, (.iaload, 1129, 0, 0, .null, []), 0, 0),
  (1129, (.aload_n 0, 1130, 0, 0, .null, []), 0, 0),
  (1130, (.iload_n 3, 1131, 3, 0, .null, []), 0, 0),
  (1131, (.iconst 2, 1132, 0, 0, .int 2, []), 0, 0),
  (1132, (.iadd, 1133, 0, 0, .null, []), 0, 0),
  (1133, (.iaload, 1134, 0, 0, .null, []), 0, 0),
  (1134, (.aload_n 0, 1135, 0, 0, .null, []), 0, 0),
  (1135, (.iload_n 3, 1136, 3, 0, .null, []), 0, 0),
  (1136, (.iconst 3, 1137, 0, 0, .int 3, []), 0, 0),
  (1137, (.iadd, 1138, 0, 0, .null, []), 0, 0),
  (1138, (.iaload, 1139, 0, 0, .null, []), 0, 0),
  (1139, (.invokevirtual 162, 1142, 234, 3, .null, []), 6, 59),
  (1142, (.pop, 1143, 0, 0, .null, []), 0, 0),
  (1143, (.goto 135, 1146, 1278, 0, .null, []), 0, 0),
  (1146, (.aload_n 1, 1147, 1, 0, .null, []), 0, 0),
  (1147, (.aload_n 0, 1148, 0, 0, .null, []), 0, 0),
  (1148, (.iload_n 3, 1149, 3, 0, .null, []), 0, 0),
  (1149, (.iconst 1, 1150, 0, 0, .int 1, []), 0, 0),
  (1150, (.iadd, 1151, 0, 0, .null, []), 0, 0),
  (1151, (.iaload, 1152, 0, 0, .null, []), 0, 0),
  (1152, (.aload_n 0, 1153, 0, 0, .null, []), 0, 0),
  (1153, (.iload_n 3, 1154, 3, 0, .null, []), 0, 0),
  (1154, (.iconst 2, 1155, 0, 0, .int 2, []), 0, 0),
  (1155, (.iadd, 1156, 0, 0, .null, []), 0, 0),
  (1156, (.iaload, 1157, 0, 0, .null, []), 0, 0),
  (1157, (.aload_n 0, 1158, 0, 0, .null, []), 0, 0),
  (1158, (.iload_n 3, 1159, 3, 0, .null, []), 0, 0),
  (1159, (.iconst 3, 1160, 0, 0, .int 3, []), 0, 0),
  (1160, (.iadd, 1161, 0, 0, .null, []), 0, 0),
  (1161, (.iaload, 1162, 0, 0, .null, []), 0, 0),
  (1162, (.invokevirtual 163, 1165, 126, 3, .null, []), 4, 21),
  (1165, (.pop, 1166, 0, 0, .null, []), 0, 0),
  (1166, (.aload_n 2, 1167, 2, 0, .null, []), 0, 0),
  (1167, (.aload_n 0, 1168, 0, 0, .null, []), 0, 0),
  (1168, (.iload_n 3, 1169, 3, 0, .null, []), 0, 0),
  (1169, (.iconst 1, 1170, 0, 0, .int 1, []), 0, 0),
  (1170, (.iadd, 1171, 0, 0, .null, []), 0, 0),
  (1171, (.iaload, 1172, 0, 0, .null, []), 0, 0),
  (1172, (.aload_n 0, 1173, 0, 0, .null, []), 0, 0),
  (1173, (.iload_n 3, 1174, 3, 0, .null, []), 0, 0),
  (1174, (.iconst 2, 1175, 0, 0, .int 2, []), 0, 0),
  (1175, (.iadd, 1176, 0, 0, .null, []), 0, 0),
  (1176, (.iaload, 1177, 0, 0, .null, []), 0, 0),
  (1177, (.aload_n 0, 1178, 0, 0, .null, []), 0, 0),
  (1178, (.iload_n 3, 1179, 3, 0, .null, []), 0, 0),
  (1179, (.iconst 3, 1180, 0, 0, .int 3, []), 0, 0),
  (1180, (.iadd, 1181, 0, 0, .null, []), 0, 0),
  (1181, (.iaload, 1182, 0, 0, .null, []), 0, 0),
  (1182, (.invokevirtual 166, 1185, 235, 3, .null, []), 6, 66),
  (1185, (.pop, 1186, 0, 0, .null, []), 0, 0),
  (1186, (.goto 92, 1189, 1278, 0, .null, []), 0, 0),
  (1189, (.aload_n 1, 1190, 1, 0, .null, []), 0, 0),
  (1190, (.aload_n 0, 1191, 0, 0, .null, []), 0, 0),
  (1191, (.iload_n 3, 1192, 3, 0, .null, []), 0, 0),
  (1192, (.iconst 1, 1193, 0, 0, .int 1, []), 0, 0),
  (1193, (.iadd, 1194, 0, 0, .null, []), 0, 0),
  (1194, (.iaload, 1195, 0, 0, .null, []), 0, 0),
  (1195, (.aload_n 0, 1196, 0, 0, .null, []), 0, 0),
  (1196, (.iload_n 3, 1197, 3, 0, .null, []), 0, 0),
  (1197, (.iconst 2, 1198, 0, 0, .int 2, []), 0, 0),
  (1198, (.iadd, 1199, 0, 0, .null, []), 0, 0),
  (1199, (.iaload, 1200, 0, 0, .null, []), 0, 0),
  (1200, (.aload_n 0, 1201, 0, 0, .null, []), 0, 0),
  (1201, (.iload_n 3, 1202, 3, 0, .null, []), 0, 0),
  (1202, (.iconst 3, 1203, 0, 0, .int 3, []), 0, 0),
  (1203, (.iadd, 1204, 0, 0, .null, []), 0, 0),
  (1204, (.iaload, 1205, 0, 0, .null, []), 0, 0),
  (1205, (.aload_n 0, 1206, 0, 0, .null, []), 0, 0),
  (1206, (.iload_n 3, 1207, 3, 0, .null, []), 0, 0),
  (1207, (.iconst 4, 1208, 0, 0, .int 4, []), 0, 0),
  (1208, (.iadd, 1209, 0, 0, .null, []), 0, 0),
  (1209, (.iaload, 1210, 0, 0, .null, []), 0, 0),
  (1210, (.invokevirtual 167, 1213, 127, 4, .null, []), 4, 42),
  (1213, (.pop, 1214, 0, 0, .null, []), 0, 0),
  (1214, (.aload_n 2, 1215, 2, 0, .null, []), 0, 0),
  (1215, (.aload_n 0, 1216, 0, 0, .null, []), 0, 0),
  (1216, (.iload_n 3, 1217, 3, 0, .null, []), 0, 0),
  (1217, (.iconst 1, 1218, 0, 0, .int 1, []), 0, 0),
  (1218, (.iadd, 1219, 0, 0, .null, []), 0, 0),
  (1219, (.iaload, 1220, 0, 0, .null, []), 0, 0),
  (1220, (.aload_n 0, 1221, 0, 0, .null, []), 0, 0),
  (1221, (.iload_n 3, 1222, 3, 0, .null, []), 0, 0),
  (1222, (.iconst 2, 1223, 0, 0, .int 2, []), 0, 0),
  (1223, (.iadd, 1224, 0, 0, .null, []), 0, 0),
  (1224, (.iaload, 1225, 0, 0, .null, []), 0, 0),
  (1225, (.aload_n 0, 1226, 0, 0, .null, []), 0, 0),
  (1226, (.iload_n 3, 1227, 3, 0, .null, []), 0, 0),
  (1227, (.iconst 3, 1228, 0, 0, .int 3, []), 0, 0),
  (1228, (.iadd, 1229, 0, 0, .null, []), 0, 0),
  (1229, (.iaload, 1230, 0, 0, .null, []), 0, 0),
  (1230, (.aload_n 0, 1231, 0, 0, .null, []), 0, 0),
  (1231, (.iload_n 3, 1232, 3, 0, .null, []), 0, 0),
  (1232, (.iconst 4, 1233, 0, 0, .int 4, []), 0, 0),
  (1233, (.iadd, 1234, 0, 0, .null, []), 0, 0),
  (1234, (.iaload, 1235, 0, 0, .null, []), 0, 0),
  (1235, (.invokevirtual 171, 1238, 236, 4, .null, []), 6, 70),
  (1238, (.pop, 1239, 0, 0, .null, []), 0, 0),
  (1239, (.goto 39, 1242, 1278, 0, .null, []), 0, 0),
  (1242, (.aload_n 1, 1243, 1, 0, .null, []), 0, 0),
  (1243, (.invokevirtual 172, 1246, 128, 0, .null, []), 4, 62),
  (1246, (.pop, 1247, 0, 0, .null, []), 0, 0),
  (1247, (.aload_n 2, 1248, 2, 0, .null, []), 0, 0),
  (1248, (.invokevirtual 175, 1251, 237, 0, .null, []), 6, 75),
  (1251, (.pop, 1252, 0, 0, .null, []), 0, 0),
  (1252, (.goto 26, 1255, 1278, 0, .null, []), 0, 0),
  (1255, (.aload_n 1, 1256, 1, 0, .null, []), 0, 0),
  (1256, (.aload_n 0, 1257, 0, 0, .null, []), 0, 0),
  (1257, (.iload_n 3, 1258, 3, 0, .null, []), 0, 0),
  (1258, (.iconst 1, 1259, 0, 0, .int 1, []), 0, 0),
  (1259, (.iadd, 1260, 0, 0, .null, []), 0, 0),
  (1260, (.iaload, 1261, 0, 0, .null, []), 0, 0),
  (1261, (.invokevirtual 176, 1264, 129, 1, .null, []), 4, 66),
  (1264, (.pop, 1265, 0, 0, .null, []), 0, 0),
  (1265, (.aload_n 2, 1266, 2, 0, .null, []), 0, 0),
  (1266, (.aload_n 0, 1267, 0, 0, .null, []), 0, 0),
  (1267, (.iload_n 3, 1268, 3, 0, .null, []), 0, 0),
  (1268, (.iconst 1, 1269, 0, 0, .int 1, []), 0, 0),
  (1269, (.iadd, 1270, 0, 0, .null, []), 0, 0),
  (1270, (.iaload, 1271, 0, 0, .null, []), 0, 0),
  (1271, (.invokevirtual 179, 1274, 238, 1, .null, []), 6, 79),
  (1274, (.pop, 1275, 0, 0, .null, []), 0, 0),
  (1275, (.goto 3, 1278, 1278, 0, .null, []), 0, 0),
  (1278, (.iinc 3 5, 1281, 3, 0, .int 5, []), 0, 0),
  (1281, (.goto (-1263), 1284, 18, 0, .null, []), 0, 0),
  (1284, (.iconst 1, 1285, 0, 0, .int 1, []), 0, 0),
  (1285, (.ireturn, 1286, 0, 0, .null, []), 0, 0)]
def qm_codes : List (List qm_E) := [
  qc_0, qc_1, qc_2, qc_3, qc_4, qc_5, qc_6, qc_7, qc_8, qc_9, qc_10, qc_11, qc_12, qc_13, qc_14, qc_15,
  qc_16, qc_17, qc_18, qc_19, qc_20, qc_21, qc_22, qc_23, qc_24, qc_25, qc_26, qc_27, qc_28, qc_29, qc_30, qc_31,
  qc_32, qc_33, qc_34, qc_35, qc_36, qc_37, qc_38, qc_39, qc_40, qc_41, qc_42, qc_43, qc_44, qc_45, qc_46, qc_47,
  qc_48, qc_49, qc_50, qc_51, qc_52, qc_53, qc_54, qc_55, qc_56, qc_57, qc_58, qc_59, qc_60, qc_61, qc_62, qc_63,
  qc_64, qc_65, qc_66, qc_67, qc_68, qc_69, qc_70, qc_71, qc_72, qc_73, qc_74, qc_75, qc_76, qc_77, qc_78, qc_79,
  qc_80, qc_81, qc_82, qc_83, qc_84, qc_85, qc_86, qc_87, qc_88, qc_89, qc_90, qc_91, qc_92, qc_93, qc_94, qc_95,
  qc_96, qc_97, qc_98, qc_99, qc_100, qc_101, qc_102, qc_103, qc_104, qc_105, qc_106, qc_107, qc_108, qc_109, qc_110, qc_111,
  qc_112, qc_113, qc_114, qc_115, qc_116, qc_117, qc_118, qc_119, qc_120, qc_121, qc_122, qc_123, qc_124, qc_125, qc_126, qc_127,
  qc_128, qc_129, qc_130, qc_131, qc_132, qc_133, qc_134, qc_135, qc_136, qc_137, qc_138, qc_139, qc_140, qc_141, qc_142, qc_143,
  qc_144, qc_145, qc_146, qc_147, qc_148, qc_149, qc_150, qc_151, qc_152, qc_153, qc_154, qc_155, qc_156, qc_157, qc_158, qc_159,
  qc_160, qc_161, qc_162, qc_163, qc_164, qc_165, qc_166, qc_167, qc_168, qc_169, qc_170, qc_171, qc_172, qc_173, qc_174, qc_175,
  qc_176, qc_177, qc_178, qc_179, qc_180, qc_181, qc_182, qc_183, qc_184, qc_185, qc_186, qc_187, qc_188, qc_189, qc_190, qc_191,
  qc_192, qc_193, qc_194, qc_195, qc_196, qc_197, qc_198, qc_199, qc_200, qc_201, qc_202, qc_203, qc_204, qc_205, qc_206, qc_207,
  qc_208, qc_209, qc_210, qc_211, qc_212, qc_213, qc_214, qc_215, qc_216, qc_217, qc_218, qc_219, qc_220, qc_221, qc_222, qc_223,
  qc_224, qc_225, qc_226, qc_227, qc_228, qc_229, qc_230, qc_231, qc_232, qc_233, qc_234, qc_235, qc_236, qc_237, qc_238, qc_239]
def qm_owns : List String := [
  "java/lang/Integer", "java/lang/Math", "java/lang/Math", "java/lang/String", "java/lang/String", "java/lang/String", "java/lang/String", "java/lang/StringLatin1",
  "java/lang/String", "jdk/internal/util/Preconditions", "ThreadBank$Clearing", "ThreadBank$Clearing", "ThreadBank$Clearing", "ThreadBank$Clearing", "ThreadBank$Clearing", "ThreadBank$Clearing",
  "ThreadBank$Clearing", "ThreadBank$Clearing", "ThreadBank$Clearing", "ThreadBank$Clearing", "ThreadBank$Clearing", "ThreadBank$Clearing", "ThreadBank$Memory", "ThreadBank$Memory",
  "ThreadBank$Memory", "ThreadBank$Memory", "ThreadBank$Memory", "ThreadBank$Memory", "ThreadBank$Memory", "ThreadBank$Memory", "ThreadBank$Memory", "ThreadBank$Memory",
  "ThreadBank$Memory", "ThreadBank$Memory", "ThreadBank$Memory", "ThreadBank$Memory", "ThreadBank$Memory", "ThreadBank$Memory", "ThreadBank$Memory", "ThreadBank$Memory",
  "ThreadBank$Memory", "ThreadBank$Memory", "ThreadBank$Memory", "ThreadBank$Memory", "ThreadBank$Memory", "ThreadBank$Memory", "ThreadBank$Memory", "ThreadBank$Memory",
  "ThreadBank$Memory", "ThreadBank$Memory", "ThreadBank$Memory", "ThreadBank$Memory", "ThreadBank$Memory", "ThreadBank$Memory", "ThreadBank$Memory", "ThreadBank$Memory",
  "ThreadBank$Memory", "ThreadBank$Memory", "ThreadBank$Memory", "ThreadBank$Memory", "ThreadBank$Memory", "ThreadBank$Memory", "ThreadBank$Memory", "ThreadBank$Memory",
  "ThreadBank$Memory", "ThreadBank$Sheets", "ThreadBank$Sheets", "ThreadBank$Sheets", "ThreadBank$Sheets", "ThreadBank$Sheets", "ThreadBank$Sheets", "ThreadBank$Sheets",
  "ThreadBank$Sheets", "ThreadBank$Sheets", "ThreadBank$Sheets", "ThreadBank$TextReader", "ThreadBank$TextReader", "ThreadBank$TextReader", "ThreadBank$TextReader", "ThreadBank$TextReader",
  "ThreadBank$TextReader", "ThreadBank$TextReader", "ThreadBank$TextReader", "ThreadBank$TextReader", "ThreadBank$TextReader", "ThreadBank$TextReader", "ThreadBank$TextReader", "ThreadBank$TextReader",
  "ThreadBank$TextReader", "ThreadBank$TextReader", "ThreadBank", "ThreadBank", "ThreadBank", "ThreadBank", "ThreadBank", "ThreadBank",
  "ThreadBank", "ThreadBank", "ThreadBank", "ThreadBank", "ThreadBank", "ThreadBank", "ThreadBank", "ThreadBank",
  "ThreadBank", "ThreadBank", "ThreadBank", "ThreadBank", "ThreadBank", "ThreadBank", "ThreadBank", "ThreadBank",
  "ThreadBank", "ThreadBank", "ThreadBank", "ThreadBank", "ThreadBank", "ThreadBank", "ThreadBank", "ThreadBank",
  "ThreadBank", "ThreadBank", "ThreadBank", "ThreadBank", "ThreadBank", "ThreadBank", "ThreadBank", "ThreadBank",
  "ThreadBank", "ThreadBank", "ThreadBank", "ThreadBank", "ThreadBank", "ThreadBank", "ThreadBank", "ThreadBank",
  "ThreadBank", "ThreadBank", "ThreadBank", "ThreadBank", "ThreadBank", "ThreadBankModel", "ThreadBankModel", "ThreadBankModel",
  "ThreadBankModel", "ThreadBankModel", "ThreadBankModel", "ThreadBankModel", "ThreadBankModel", "ThreadBankModel", "ThreadBankModel", "ThreadBankModel",
  "ThreadBankModel", "ThreadBankModel", "ThreadBankModel", "ThreadBankModel", "ThreadBankModel", "ThreadBankModel", "ThreadBankModel", "ThreadBankModel",
  "ThreadBankModel", "ThreadBankModel", "ThreadBankModel", "ThreadBankModel", "ThreadBankModel", "ThreadBankModel", "ThreadBankModel", "ThreadBankModel",
  "ThreadBankModel", "ThreadBankModel", "ThreadBankModel", "ThreadBankModel", "ThreadBankModel", "ThreadBankModel", "ThreadBankModel", "ThreadBankModel",
  "ThreadBankModel", "ThreadBankModel", "ThreadBankModel", "ThreadBankModel", "ThreadBankModel", "ThreadBankModel", "ThreadBankModel", "ThreadBankModel",
  "ThreadBankModel", "ThreadBankModel", "ThreadBankModel", "ThreadBankModel", "ThreadBankModel", "ThreadBankModel", "ThreadBankModel", "ThreadBankModel",
  "ThreadBankModel", "ThreadBankModel", "ThreadBankModel", "ThreadBankModel", "ThreadBankModel", "ThreadBankModel", "ThreadBankModel", "ThreadBankModel",
  "ThreadBankModel", "ThreadBankModel", "ThreadBankModel", "ThreadBankModel", "ThreadBankModel", "ThreadBankModel", "ThreadBankModel", "ThreadBankModel",
  "ThreadBankModel", "ThreadBankModel", "ThreadBankModel", "ThreadBankModel", "ThreadBankModel", "ThreadBankModel", "ThreadBankModel", "ThreadBankModel",
  "ThreadBankModel", "ThreadBankModel", "ThreadBankModel", "ThreadBankModel", "ThreadBankModel", "ThreadBankModel", "ThreadBankModel", "ThreadBankModel",
  "ThreadBankModel", "ThreadBankModel", "ThreadBankModel", "ThreadBankModel", "ThreadBankModel", "ThreadBankModel", "ThreadBankModel", "ThreadBankModel",
  "ThreadBankModel", "ThreadBankModel", "ThreadBankModel", "ThreadBankModel", "ThreadBankModel", "ThreadBankModel", "ThreadBankModel", "ThreadBankLaw"]
def qm_ys : List MethodName := [
  ⟨"java/lang/Integer", "bitCount", "(I)I"⟩, ⟨"java/lang/Math", "max", "(II)I"⟩, ⟨"java/lang/Math", "min", "(II)I"⟩, ⟨"java/lang/String", "length", "()I"⟩,
  ⟨"java/lang/String", "coder", "()B"⟩, ⟨"java/lang/String", "isLatin1", "()Z"⟩, ⟨"java/lang/String", "charAt", "(I)C"⟩, ⟨"java/lang/StringLatin1", "charAt", "([BI)C"⟩,
  ⟨"java/lang/String", "checkIndex", "(II)V"⟩, ⟨"jdk/internal/util/Preconditions", "checkIndex", "(IILjava/util/function/BiFunction;)I"⟩, ⟨"ThreadBank$Clearing", "begin", "(LThreadBank$Memory;)V"⟩, ⟨"ThreadBank$Clearing", "owes", "(II)I"⟩,
  ⟨"ThreadBank$Clearing", "owedStill", "()I"⟩, ⟨"ThreadBank$Clearing", "findBest", "()Z"⟩, ⟨"ThreadBank$Clearing", "gainOfBest", "()I"⟩, ⟨"ThreadBank$Clearing", "sizeOfBest", "()I"⟩,
  ⟨"ThreadBank$Clearing", "clerkOfBest", "(I)I"⟩, ⟨"ThreadBank$Clearing", "takeAll", "()I"⟩, ⟨"ThreadBank$Clearing", "takeBest", "()V"⟩, ⟨"ThreadBank$Clearing", "leastIn", "(I)I"⟩,
  ⟨"ThreadBank$Clearing", "sizeOf", "(I)I"⟩, ⟨"ThreadBank$Clearing", "clerkIn", "(II)I"⟩, ⟨"ThreadBank$Memory", "wipe", "()V"⟩, ⟨"ThreadBank$Memory", "become", "(LThreadBank$Memory;)V"⟩,
  ⟨"ThreadBank$Memory", "isPlace", "(II)Z"⟩, ⟨"ThreadBank$Memory", "isPair", "(II)Z"⟩, ⟨"ThreadBank$Memory", "isKnot", "(I)Z"⟩, ⟨"ThreadBank$Memory", "roomOf", "(II)I"⟩,
  ⟨"ThreadBank$Memory", "hasClerk", "(I)Z"⟩, ⟨"ThreadBank$Memory", "hasThread", "(I)Z"⟩, ⟨"ThreadBank$Memory", "hasPlace", "(I)Z"⟩, ⟨"ThreadBank$Memory", "hasPair", "(I)Z"⟩,
  ⟨"ThreadBank$Memory", "kindOf", "(I)I"⟩, ⟨"ThreadBank$Memory", "handOf", "(I)I"⟩, ⟨"ThreadBank$Memory", "threadBits", "()I"⟩, ⟨"ThreadBank$Memory", "threadsAt", "(I)I"⟩,
  ⟨"ThreadBank$Memory", "threadsOn", "(I)I"⟩, ⟨"ThreadBank$Memory", "roomAt", "(I)I"⟩, ⟨"ThreadBank$Memory", "roomOn", "(I)I"⟩, ⟨"ThreadBank$Memory", "roomOfAll", "()I"⟩,
  ⟨"ThreadBank$Memory", "roomLeftAt", "(I)I"⟩, ⟨"ThreadBank$Memory", "roomLeftOn", "(I)I"⟩, ⟨"ThreadBank$Memory", "fingersOfRoom", "(I)I"⟩, ⟨"ThreadBank$Memory", "fingersInUse", "()I"⟩,
  ⟨"ThreadBank$Memory", "addClerk", "(I)Z"⟩, ⟨"ThreadBank$Memory", "addThread", "(III)Z"⟩, ⟨"ThreadBank$Memory", "addSeen", "(II)Z"⟩, ⟨"ThreadBank$Memory", "tieIfMay", "(III)I"⟩,
  ⟨"ThreadBank$Memory", "cutThread", "(I)V"⟩, ⟨"ThreadBank$Memory", "sameDebt", "(II)Z"⟩, ⟨"ThreadBank$Memory", "originalsOf", "(I)I"⟩, ⟨"ThreadBank$Memory", "isCopy", "(I)Z"⟩,
  ⟨"ThreadBank$Memory", "copiesTied", "()I"⟩, ⟨"ThreadBank$Memory", "owedBy", "(II)I"⟩, ⟨"ThreadBank$Memory", "owedInAll", "(I)I"⟩, ⟨"ThreadBank$Memory", "netOf", "(I)I"⟩,
  ⟨"ThreadBank$Memory", "noteOriginals", "([I)V"⟩, ⟨"ThreadBank$Memory", "owedWithout", "(II[I)I"⟩, ⟨"ThreadBank$Memory", "isAsSeen", "(I[I)Z"⟩, ⟨"ThreadBank$Memory", "isFirstOfDebt", "(I)Z"⟩,
  ⟨"ThreadBank$Memory", "debts", "()I"⟩, ⟨"ThreadBank$Memory", "isKeptWithout", "(II)Z"⟩, ⟨"ThreadBank$Memory", "debtsLostWith", "(I)I"⟩, ⟨"ThreadBank$Memory", "quarrelOf", "(II)Z"⟩,
  ⟨"ThreadBank$Memory", "slipOdds", "(II)I"⟩, ⟨"ThreadBank$Sheets", "isSheet", "(I)Z"⟩, ⟨"ThreadBank$Sheets", "isLane", "(I)Z"⟩, ⟨"ThreadBank$Sheets", "isNothing", "(I)Z"⟩,
  ⟨"ThreadBank$Sheets", "hasCell", "(II)Z"⟩, ⟨"ThreadBank$Sheets", "cell", "(II)I"⟩, ⟨"ThreadBank$Sheets", "renew", "(III)V"⟩, ⟨"ThreadBank$Sheets", "write", "(III)V"⟩,
  ⟨"ThreadBank$Sheets", "lowestBits", "(II)I"⟩, ⟨"ThreadBank$Sheets", "faultAsOf", "(II)I"⟩, ⟨"ThreadBank$Sheets", "faultOfThree", "(II)I"⟩, ⟨"ThreadBank$TextReader", "append", "(I)Z"⟩,
  ⟨"ThreadBank$TextReader", "readAll", "()Z"⟩, ⟨"ThreadBank$TextReader", "begin", "()V"⟩, ⟨"ThreadBank$TextReader", "fail", "(II)Z"⟩, ⟨"ThreadBank$TextReader", "readLine", "()Z"⟩,
  ⟨"ThreadBank$TextReader", "readDay", "()Z"⟩, ⟨"ThreadBank$TextReader", "readTie", "()Z"⟩, ⟨"ThreadBank$TextReader", "readNumber", "()Z"⟩, ⟨"ThreadBank$TextReader", "readStop", "()Z"⟩,
  ⟨"ThreadBank$TextReader", "isWhole", "()Z"⟩, ⟨"ThreadBank$TextReader", "nextToken", "()Z"⟩, ⟨"ThreadBank$TextReader", "endOfRun", "(III)I"⟩, ⟨"ThreadBank$TextReader", "byteAt", "(I)I"⟩,
  ⟨"ThreadBank$TextReader", "wordRead", "()I"⟩, ⟨"ThreadBank$TextReader", "isWord", "(Ljava/lang/String;)Z"⟩, ⟨"ThreadBank", "feed", "(I)I"⟩, ⟨"ThreadBank", "end", "(I)I"⟩,
  ⟨"ThreadBank", "text", "()I"⟩, ⟨"ThreadBank", "fault", "()I"⟩, ⟨"ThreadBank", "rule", "(I)I"⟩, ⟨"ThreadBank", "clerk", "(II)I"⟩,
  ⟨"ThreadBank", "finger", "(II)I"⟩, ⟨"ThreadBank", "thread", "(II)I"⟩, ⟨"ThreadBank", "tie", "(III)I"⟩, ⟨"ThreadBank", "cut", "(I)I"⟩,
  ⟨"ThreadBank", "move", "(II)I"⟩, ⟨"ThreadBank", "lose", "(I)I"⟩, ⟨"ThreadBank", "teach", "(II)I"⟩, ⟨"ThreadBank", "day", "(I)I"⟩,
  ⟨"ThreadBank", "owed", "(II)I"⟩, ⟨"ThreadBank", "sum", "(I)I"⟩, ⟨"ThreadBank", "ring", "(I)I"⟩, ⟨"ThreadBank", "clear", "(I)I"⟩,
  ⟨"ThreadBank", "left", "(I)I"⟩, ⟨"ThreadBank", "pays", "()I"⟩, ⟨"ThreadBank", "fewest", "()I"⟩, ⟨"ThreadBank", "place", "()I"⟩,
  ⟨"ThreadBank", "risk", "(I)I"⟩, ⟨"ThreadBank", "copies", "()I"⟩, ⟨"ThreadBank", "spare", "(I)I"⟩, ⟨"ThreadBank", "quarrel", "(I)I"⟩,
  ⟨"ThreadBank", "kept", "(III)J"⟩, ⟨"ThreadBank", "slips", "(II)J"⟩, ⟨"ThreadBank", "none", "(II)J"⟩, ⟨"ThreadBank", "see", "(II)I"⟩,
  ⟨"ThreadBank", "forget", "(I)I"⟩, ⟨"ThreadBank", "fits", "(I)I"⟩, ⟨"ThreadBank", "drift", "(III)I"⟩, ⟨"ThreadBank", "keep", "(I)I"⟩,
  ⟨"ThreadBank", "back", "(I)I"⟩, ⟨"ThreadBank", "sheet", "(III)I"⟩, ⟨"ThreadBank", "lay", "(III)I"⟩, ⟨"ThreadBank", "read", "(IIII)I"⟩,
  ⟨"ThreadBank", "torn", "()I"⟩, ⟨"ThreadBank", "count", "(I)I"⟩, ⟨"ThreadBank", "tieThreeCells", "(II)Z"⟩, ⟨"ThreadBank", "sumOfNetsAboveNothing", "()I"⟩,
  ⟨"ThreadBank", "firstHasMate", "()Z"⟩, ⟨"ThreadBank", "roomiestPlaceOn", "(I)I"⟩, ⟨"ThreadBank", "imageOf", "(I)LThreadBank$Memory;"⟩, ⟨"ThreadBank", "isImage", "(I)Z"⟩,
  ⟨"ThreadBank", "isOdds", "(I)Z"⟩, ⟨"ThreadBank", "isPart", "(I)Z"⟩, ⟨"ThreadBank", "hasBit", "(II)Z"⟩, ⟨"ThreadBank", "partOf", "(JJI)J"⟩,
  ⟨"ThreadBank", "greatestShared", "(JJ)J"⟩, ⟨"ThreadBankModel", "in", "(JJJ)Z"⟩, ⟨"ThreadBankModel", "flag", "(Z)I"⟩, ⟨"ThreadBankModel", "firstDraft", "()V"⟩,
  ⟨"ThreadBankModel", "keepDraft", "()V"⟩, ⟨"ThreadBankModel", "feed", "(I)I"⟩, ⟨"ThreadBankModel", "end", "(I)I"⟩, ⟨"ThreadBankModel", "needs", "(ZI)V"⟩,
  ⟨"ThreadBankModel", "byteAt", "(I)I"⟩, ⟨"ThreadBankModel", "is", "(IIII)Z"⟩, ⟨"ThreadBankModel", "ends", "(IIII)Z"⟩, ⟨"ThreadBankModel", "lineNow", "()I"⟩,
  ⟨"ThreadBankModel", "next", "()V"⟩, ⟨"ThreadBankModel", "looked", "(II)I"⟩, ⟨"ThreadBankModel", "readNumber", "(II)I"⟩, ⟨"ThreadBankModel", "mentions", "(I)V"⟩,
  ⟨"ThreadBankModel", "readPlace", "()I"⟩, ⟨"ThreadBankModel", "readPair", "()I"⟩, ⟨"ThreadBankModel", "readLineOf", "(I)V"⟩, ⟨"ThreadBankModel", "readLine", "()V"⟩,
  ⟨"ThreadBankModel", "roomOf", "(II)I"⟩, ⟨"ThreadBankModel", "doFit", "()Z"⟩, ⟨"ThreadBankModel", "text", "()I"⟩, ⟨"ThreadBankModel", "fault", "()I"⟩,
  ⟨"ThreadBankModel", "isClerk", "(I)Z"⟩, ⟨"ThreadBankModel", "isPlace", "(I)Z"⟩, ⟨"ThreadBankModel", "isPair", "(I)Z"⟩, ⟨"ThreadBankModel", "isThread", "(I)Z"⟩,
  ⟨"ThreadBankModel", "isPart", "(I)Z"⟩, ⟨"ThreadBankModel", "starts", "()V"⟩, ⟨"ThreadBankModel", "settles", "()V"⟩, ⟨"ThreadBankModel", "of", "(II)I"⟩,
  ⟨"ThreadBankModel", "handOf", "(I)I"⟩, ⟨"ThreadBankModel", "room", "(I)I"⟩, ⟨"ThreadBankModel", "tiedAt", "(I)I"⟩, ⟨"ThreadBankModel", "tiedOn", "(I)I"⟩,
  ⟨"ThreadBankModel", "handRoom", "(I)I"⟩, ⟨"ThreadBankModel", "cuts", "(I)V"⟩, ⟨"ThreadBankModel", "areAlike", "(II)Z"⟩, ⟨"ThreadBankModel", "isCopy", "(I)Z"⟩,
  ⟨"ThreadBankModel", "findOwed", "(I)V"⟩, ⟨"ThreadBankModel", "owedBy", "(I)I"⟩, ⟨"ThreadBankModel", "netOf", "(I)I"⟩, ⟨"ThreadBankModel", "allOwed", "()I"⟩,
  ⟨"ThreadBankModel", "rule", "(I)I"⟩, ⟨"ThreadBankModel", "clerk", "(II)I"⟩, ⟨"ThreadBankModel", "finger", "(II)I"⟩, ⟨"ThreadBankModel", "thread", "(II)I"⟩,
  ⟨"ThreadBankModel", "becomes", "(II)I"⟩, ⟨"ThreadBankModel", "tie", "(III)I"⟩, ⟨"ThreadBankModel", "cut", "(I)I"⟩, ⟨"ThreadBankModel", "move", "(II)I"⟩,
  ⟨"ThreadBankModel", "onHand", "(I)I"⟩, ⟨"ThreadBankModel", "lose", "(I)I"⟩, ⟨"ThreadBankModel", "teach", "(II)I"⟩, ⟨"ThreadBankModel", "day", "(I)I"⟩,
  ⟨"ThreadBankModel", "owed", "(II)I"⟩, ⟨"ThreadBankModel", "sum", "(I)I"⟩, ⟨"ThreadBankModel", "isRow", "(II)Z"⟩, ⟨"ThreadBankModel", "leastIn", "(I)I"⟩,
  ⟨"ThreadBankModel", "power", "(II)I"⟩, ⟨"ThreadBankModel", "findRing", "()Z"⟩, ⟨"ThreadBankModel", "startsOwed", "()V"⟩, ⟨"ThreadBankModel", "ring", "(I)I"⟩,
  ⟨"ThreadBankModel", "clears", "()I"⟩, ⟨"ThreadBankModel", "clear", "(I)I"⟩, ⟨"ThreadBankModel", "left", "(I)I"⟩, ⟨"ThreadBankModel", "bitsOf", "(I)I"⟩,
  ⟨"ThreadBankModel", "netOfAll", "(I)I"⟩, ⟨"ThreadBankModel", "pays", "()I"⟩, ⟨"ThreadBankModel", "fewest", "()I"⟩, ⟨"ThreadBankModel", "place", "()I"⟩,
  ⟨"ThreadBankModel", "handsOf", "(I)I"⟩, ⟨"ThreadBankModel", "isFirst", "(I)Z"⟩, ⟨"ThreadBankModel", "atRisk", "(I)I"⟩, ⟨"ThreadBankModel", "risk", "(I)I"⟩,
  ⟨"ThreadBankModel", "copies", "()I"⟩, ⟨"ThreadBankModel", "spare", "(I)I"⟩, ⟨"ThreadBankModel", "quarrel", "(I)I"⟩, ⟨"ThreadBankModel", "common", "(JJ)J"⟩,
  ⟨"ThreadBankModel", "told", "(JJI)J"⟩, ⟨"ThreadBankModel", "slipOf", "(II)I"⟩, ⟨"ThreadBankModel", "kept", "(III)J"⟩, ⟨"ThreadBankModel", "slips", "(II)J"⟩,
  ⟨"ThreadBankModel", "none", "(II)J"⟩, ⟨"ThreadBankModel", "see", "(II)I"⟩, ⟨"ThreadBankModel", "forget", "(I)I"⟩, ⟨"ThreadBankModel", "isSo", "(I)Z"⟩,
  ⟨"ThreadBankModel", "fits", "(I)I"⟩, ⟨"ThreadBankModel", "drift", "(III)I"⟩, ⟨"ThreadBankModel", "copiesTo", "(II)V"⟩, ⟨"ThreadBankModel", "keep", "(I)I"⟩,
  ⟨"ThreadBankModel", "back", "(I)I"⟩, ⟨"ThreadBankModel", "isSheet", "(II)Z"⟩, ⟨"ThreadBankModel", "sheet", "(III)I"⟩, ⟨"ThreadBankModel", "lay", "(III)I"⟩,
  ⟨"ThreadBankModel", "read", "(IIII)I"⟩, ⟨"ThreadBankModel", "torn", "()I"⟩, ⟨"ThreadBankModel", "count", "(I)I"⟩, ⟨"ThreadBankLaw", "law", "([I)Z"⟩]
def qm_bs : List ByteArray := [
  prog_8_method_49_code, prog_9_method_65_code, prog_9_method_69_code, prog_10_method_54_code, prog_10_method_152_code, prog_10_method_154_code, prog_10_method_56_code, prog_11_method_2_code,
  prog_10_method_155_code, prog_14_method_11_code, prog_2_method_2_code, prog_2_method_3_code, prog_2_method_4_code, prog_2_method_5_code, prog_2_method_6_code, prog_2_method_7_code,
  prog_2_method_8_code, prog_2_method_9_code, prog_2_method_10_code, prog_2_method_11_code, prog_2_method_12_code, prog_2_method_13_code, prog_3_method_2_code, prog_3_method_3_code,
  prog_3_method_4_code, prog_3_method_5_code, prog_3_method_6_code, prog_3_method_7_code, prog_3_method_8_code, prog_3_method_9_code, prog_3_method_10_code, prog_3_method_11_code,
  prog_3_method_12_code, prog_3_method_13_code, prog_3_method_14_code, prog_3_method_15_code, prog_3_method_16_code, prog_3_method_17_code, prog_3_method_18_code, prog_3_method_19_code,
  prog_3_method_20_code, prog_3_method_21_code, prog_3_method_22_code, prog_3_method_23_code, prog_3_method_24_code, prog_3_method_25_code, prog_3_method_26_code, prog_3_method_27_code,
  prog_3_method_28_code, prog_3_method_29_code, prog_3_method_30_code, prog_3_method_31_code, prog_3_method_32_code, prog_3_method_33_code, prog_3_method_34_code, prog_3_method_35_code,
  prog_3_method_36_code, prog_3_method_37_code, prog_3_method_38_code, prog_3_method_39_code, prog_3_method_40_code, prog_3_method_41_code, prog_3_method_42_code, prog_3_method_43_code,
  prog_3_method_44_code, prog_4_method_2_code, prog_4_method_3_code, prog_4_method_4_code, prog_4_method_5_code, prog_4_method_6_code, prog_4_method_7_code, prog_4_method_8_code,
  prog_4_method_9_code, prog_4_method_10_code, prog_4_method_11_code, prog_5_method_2_code, prog_5_method_3_code, prog_5_method_4_code, prog_5_method_5_code, prog_5_method_6_code,
  prog_5_method_7_code, prog_5_method_8_code, prog_5_method_9_code, prog_5_method_10_code, prog_5_method_11_code, prog_5_method_12_code, prog_5_method_13_code, prog_5_method_14_code,
  prog_5_method_15_code, prog_5_method_16_code, prog_1_method_2_code, prog_1_method_3_code, prog_1_method_4_code, prog_1_method_5_code, prog_1_method_6_code, prog_1_method_7_code,
  prog_1_method_8_code, prog_1_method_9_code, prog_1_method_10_code, prog_1_method_11_code, prog_1_method_12_code, prog_1_method_13_code, prog_1_method_14_code, prog_1_method_15_code,
  prog_1_method_16_code, prog_1_method_17_code, prog_1_method_18_code, prog_1_method_19_code, prog_1_method_20_code, prog_1_method_21_code, prog_1_method_22_code, prog_1_method_23_code,
  prog_1_method_24_code, prog_1_method_25_code, prog_1_method_26_code, prog_1_method_27_code, prog_1_method_28_code, prog_1_method_29_code, prog_1_method_30_code, prog_1_method_31_code,
  prog_1_method_32_code, prog_1_method_33_code, prog_1_method_34_code, prog_1_method_35_code, prog_1_method_36_code, prog_1_method_37_code, prog_1_method_38_code, prog_1_method_39_code,
  prog_1_method_40_code, prog_1_method_41_code, prog_1_method_42_code, prog_1_method_43_code, prog_1_method_44_code, prog_1_method_45_code, prog_1_method_46_code, prog_1_method_47_code,
  prog_1_method_48_code, prog_1_method_49_code, prog_1_method_50_code, prog_1_method_51_code, prog_1_method_52_code, prog_7_method_3_code, prog_7_method_4_code, prog_7_method_5_code,
  prog_7_method_6_code, prog_7_method_7_code, prog_7_method_8_code, prog_7_method_9_code, prog_7_method_10_code, prog_7_method_11_code, prog_7_method_12_code, prog_7_method_13_code,
  prog_7_method_14_code, prog_7_method_15_code, prog_7_method_16_code, prog_7_method_17_code, prog_7_method_18_code, prog_7_method_19_code, prog_7_method_20_code, prog_7_method_21_code,
  prog_7_method_22_code, prog_7_method_23_code, prog_7_method_24_code, prog_7_method_25_code, prog_7_method_26_code, prog_7_method_27_code, prog_7_method_28_code, prog_7_method_29_code,
  prog_7_method_30_code, prog_7_method_31_code, prog_7_method_32_code, prog_7_method_33_code, prog_7_method_34_code, prog_7_method_35_code, prog_7_method_36_code, prog_7_method_37_code,
  prog_7_method_38_code, prog_7_method_39_code, prog_7_method_40_code, prog_7_method_41_code, prog_7_method_42_code, prog_7_method_43_code, prog_7_method_44_code, prog_7_method_45_code,
  prog_7_method_46_code, prog_7_method_47_code, prog_7_method_48_code, prog_7_method_49_code, prog_7_method_50_code, prog_7_method_51_code, prog_7_method_52_code, prog_7_method_53_code,
  prog_7_method_54_code, prog_7_method_55_code, prog_7_method_56_code, prog_7_method_57_code, prog_7_method_58_code, prog_7_method_59_code, prog_7_method_60_code, prog_7_method_61_code,
  prog_7_method_62_code, prog_7_method_63_code, prog_7_method_64_code, prog_7_method_65_code, prog_7_method_66_code, prog_7_method_67_code, prog_7_method_68_code, prog_7_method_69_code,
  prog_7_method_70_code, prog_7_method_71_code, prog_7_method_72_code, prog_7_method_73_code, prog_7_method_74_code, prog_7_method_75_code, prog_7_method_76_code, prog_7_method_77_code,
  prog_7_method_78_code, prog_7_method_79_code, prog_7_method_80_code, prog_7_method_81_code, prog_7_method_82_code, prog_7_method_83_code, prog_7_method_84_code, prog_7_method_85_code,
  prog_7_method_86_code, prog_7_method_87_code, prog_7_method_88_code, prog_7_method_89_code, prog_7_method_90_code, prog_7_method_91_code, prog_7_method_92_code, prog_7_method_93_code,
  prog_7_method_94_code, prog_7_method_95_code, prog_7_method_96_code, prog_7_method_97_code, prog_7_method_98_code, prog_7_method_99_code, prog_7_method_100_code, code]
def qm_mls : List Nat := [
  1, 2, 2, 1, 1, 1, 2, 2, 2, 3, 5, 4, 3, 3, 1, 1, 2, 2, 4, 4, 1, 3, 1, 2,
  2, 4, 1, 2, 2, 2, 2, 2, 2, 2, 1, 4, 4, 2, 4, 3, 2, 2, 5, 4, 2, 4, 3, 4,
  3, 3, 4, 2, 3, 5, 5, 4, 3, 6, 4, 3, 3, 4, 4, 5, 3, 1, 1, 2, 3, 3, 5, 4,
  2, 3, 3, 2, 2, 1, 3, 2, 1, 3, 2, 1, 2, 1, 5, 2, 1, 3, 2, 3, 2, 1, 2, 3,
  3, 3, 4, 2, 4, 4, 4, 3, 3, 2, 3, 3, 2, 3, 5, 4, 2, 4, 5, 6, 9, 6, 8, 3,
  3, 9, 9, 3, 2, 4, 4, 9, 1, 2, 3, 3, 2, 4, 2, 1, 1, 1, 2, 7, 11, 6, 1, 2,
  2, 2, 3, 3, 2, 5, 5, 1, 2, 3, 4, 2, 2, 2, 3, 2, 2, 6, 2, 1, 2, 2, 2, 2,
  1, 2, 2, 3, 2, 2, 4, 4, 4, 5, 3, 4, 4, 2, 4, 3, 6, 3, 3, 3, 4, 5, 2, 3,
  4, 3, 4, 2, 3, 4, 7, 5, 4, 4, 1, 2, 4, 3, 2, 3, 4, 5, 7, 7, 4, 4, 4, 2,
  5, 7, 7, 10, 7, 4, 9, 6, 8, 3, 2, 4, 9, 9, 4, 3, 2, 2, 5, 4, 12, 1, 5, 4]
def qm_rets : List (Option FieldType) := [
  some .int, some .int, some .int, some .int, some .byte, some .boolean, some .char, some .char,
  none, some .int, none, some .int, some .int, some .boolean, some .int, some .int,
  some .int, some .int, none, some .int, some .int, some .int, none, none,
  some .boolean, some .boolean, some .boolean, some .int, some .boolean, some .boolean, some .boolean, some .boolean,
  some .int, some .int, some .int, some .int, some .int, some .int, some .int, some .int,
  some .int, some .int, some .int, some .int, some .boolean, some .boolean, some .boolean, some .int,
  none, some .boolean, some .int, some .boolean, some .int, some .int, some .int, some .int,
  none, some .int, some .boolean, some .boolean, some .int, some .boolean, some .int, some .boolean,
  some .int, some .boolean, some .boolean, some .boolean, some .boolean, some .int, none, none,
  some .int, some .int, some .int, some .boolean, some .boolean, none, some .boolean, some .boolean,
  some .boolean, some .boolean, some .boolean, some .boolean, some .boolean, some .boolean, some .int, some .int,
  some .int, some .boolean, some .int, some .int, some .int, some .int, some .int, some .int,
  some .int, some .int, some .int, some .int, some .int, some .int, some .int, some .int,
  some .int, some .int, some .int, some .int, some .int, some .int, some .int, some .int,
  some .int, some .int, some .int, some .int, some .long, some .long, some .long, some .int,
  some .int, some .int, some .int, some .int, some .int, some .int, some .int, some .int,
  some .int, some .int, some .boolean, some .int, some .boolean, some .int, some (.object "ThreadBank$Memory"), some .boolean,
  some .boolean, some .boolean, some .boolean, some .long, some .long, some .boolean, some .int, none,
  none, some .int, some .int, none, some .int, some .boolean, some .boolean, some .int,
  none, some .int, some .int, none, some .int, some .int, none, none,
  some .int, some .boolean, some .int, some .int, some .boolean, some .boolean, some .boolean, some .boolean,
  some .boolean, none, none, some .int, some .int, some .int, some .int, some .int,
  some .int, none, some .boolean, some .boolean, none, some .int, some .int, some .int,
  some .int, some .int, some .int, some .int, some .int, some .int, some .int, some .int,
  some .int, some .int, some .int, some .int, some .int, some .int, some .boolean, some .int,
  some .int, some .boolean, none, some .int, some .int, some .int, some .int, some .int,
  some .int, some .int, some .int, some .int, some .int, some .boolean, some .int, some .int,
  some .int, some .int, some .int, some .long, some .long, some .int, some .long, some .long,
  some .long, some .int, some .int, some .boolean, some .int, some .int, none, some .int,
  some .int, some .boolean, some .int, some .int, some .int, some .int, some .int, some .boolean]
def qm_frs : List Nat := [
  0, 0, 0, 1, 0, 0, 3, 2, 1, 0, 5, 0, 0, 3, 0, 1, 2, 4, 3, 2, 0, 1, 0, 1,
  0, 0, 0, 0, 0, 0, 1, 1, 1, 1, 0, 0, 2, 2, 3, 4, 3, 4, 3, 1, 0, 0, 0, 4,
  1, 1, 2, 3, 4, 4, 5, 5, 3, 1, 2, 2, 3, 2, 3, 2, 2, 0, 0, 1, 2, 3, 1, 3,
  0, 2, 3, 0, 7, 1, 0, 6, 4, 4, 3, 3, 4, 2, 1, 0, 5, 4, 1, 0, 8, 0, 5, 6,
  3, 4, 5, 2, 4, 2, 2, 0, 5, 7, 6, 6, 6, 7, 4, 5, 4, 5, 4, 3, 3, 3, 3, 2,
  0, 4, 3, 2, 2, 2, 4, 6, 0, 5, 5, 6, 6, 4, 0, 0, 0, 0, 0, 1, 0, 0, 0, 0,
  0, 1, 1, 0, 0, 1, 1, 2, 1, 1, 2, 0, 2, 2, 3, 4, 0, 1, 5, 0, 1, 2, 2, 1,
  1, 0, 0, 0, 1, 1, 1, 2, 2, 1, 1, 2, 3, 0, 0, 0, 3, 4, 3, 3, 0, 3, 2, 3,
  2, 3, 2, 1, 4, 4, 0, 0, 0, 1, 4, 5, 5, 6, 6, 0, 1, 5, 2, 3, 2, 2, 3, 4,
  4, 3, 2, 0, 1, 2, 3, 3, 3, 3, 1, 4, 5, 3, 0, 1, 1, 1, 2, 2, 4, 0, 3, 9]
def qm_los : List Nat := [
  0, 0, 0, 20, 0, 0, 64, 43, 22, 0, 111, 0, 0, 65, 0, 20, 42, 88, 65, 42, 0, 20, 0, 40,
  0, 0, 0, 0, 0, 0, 21, 23, 21, 21, 0, 0, 42, 42, 63, 86, 63, 86, 63, 23, 0, 0, 0, 84,
  21, 21, 43, 66, 87, 87, 111, 111, 66, 21, 46, 43, 65, 43, 66, 42, 42, 0, 0, 20, 41, 63, 20, 63,
  0, 41, 63, 0, 148, 20, 0, 127, 86, 86, 65, 65, 84, 45, 21, 0, 107, 85, 21, 0, 169, 0, 108, 134,
  63, 87, 107, 43, 84, 43, 42, 0, 111, 156, 135, 135, 135, 155, 87, 107, 89, 107, 89, 66, 64, 64, 64, 44,
  0, 88, 64, 61, 61, 44, 86, 129, 0, 109, 107, 134, 134, 84, 0, 0, 0, 0, 0, 30, 0, 0, 0, 0,
  0, 25, 25, 0, 0, 21, 21, 45, 25, 25, 47, 0, 47, 47, 70, 92, 0, 21, 113, 0, 25, 46, 46, 25,
  25, 0, 0, 0, 22, 21, 22, 43, 42, 22, 22, 44, 67, 0, 0, 0, 65, 90, 67, 67, 0, 67, 46, 67,
  43, 66, 46, 25, 90, 90, 0, 0, 0, 26, 90, 110, 110, 133, 133, 0, 23, 110, 42, 66, 44, 44, 67, 90,
  90, 67, 45, 0, 29, 43, 66, 66, 66, 67, 25, 90, 113, 66, 0, 25, 25, 25, 46, 46, 91, 0, 67, 190]
def qm_clss : List Nat := [
  9, 9, 9, 7, 7, 7, 7, 9, 9, 9, 0, 0, 0, 0, 0, 0, 0, 0, 0, 0, 9, 9, 1, 1,
  9, 9, 9, 9, 1, 1, 1, 1, 1, 1, 1, 1, 1, 1, 1, 1, 1, 1, 1, 1, 1, 1, 1, 1,
  1, 1, 1, 1, 1, 1, 1, 1, 1, 1, 1, 1, 1, 1, 1, 1, 1, 9, 9, 2, 2, 2, 2, 2,
  9, 2, 2, 3, 3, 3, 3, 3, 3, 3, 3, 3, 3, 3, 3, 3, 3, 3, 4, 4, 4, 4, 4, 4,
  4, 4, 4, 4, 4, 4, 4, 4, 4, 4, 4, 4, 4, 4, 4, 4, 4, 4, 4, 4, 4, 4, 4, 4,
  4, 4, 4, 4, 4, 4, 4, 4, 4, 4, 4, 4, 4, 4, 4, 9, 9, 9, 9, 9, 9, 9, 9, 5,
  5, 5, 5, 5, 5, 5, 5, 5, 5, 5, 5, 5, 5, 5, 5, 5, 9, 5, 5, 5, 5, 5, 5, 5,
  9, 5, 5, 5, 5, 5, 5, 5, 5, 5, 5, 5, 5, 5, 5, 5, 5, 5, 5, 5, 5, 5, 5, 5,
  5, 5, 5, 5, 5, 5, 5, 5, 9, 5, 5, 5, 5, 5, 5, 9, 5, 5, 5, 5, 5, 5, 5, 5,
  5, 5, 5, 9, 9, 5, 5, 5, 5, 5, 5, 5, 5, 5, 5, 5, 5, 9, 5, 5, 5, 5, 5, 9]
def qm_nps : List Nat := [
  1, 2, 2, 0, 0, 0, 1, 2, 2, 3, 1, 2, 0, 0, 0, 0, 1, 0, 0, 1, 1, 2, 0, 1,
  2, 2, 1, 2, 1, 1, 1, 1, 1, 1, 0, 1, 1, 1, 1, 0, 1, 1, 1, 0, 1, 3, 2, 3,
  1, 2, 1, 1, 0, 2, 1, 1, 1, 3, 2, 1, 0, 2, 1, 2, 2, 1, 1, 1, 2, 2, 3, 3,
  2, 2, 2, 1, 0, 0, 2, 0, 0, 0, 0, 0, 0, 0, 3, 1, 0, 1, 1, 1, 0, 0, 1, 2,
  2, 2, 3, 1, 2, 1, 2, 1, 2, 1, 1, 1, 1, 0, 0, 0, 1, 0, 1, 1, 3, 2, 2, 2,
  1, 1, 3, 1, 1, 3, 3, 4, 0, 1, 2, 0, 0, 1, 1, 1, 1, 1, 2, 3, 2, 3, 1, 0,
  0, 1, 1, 2, 1, 4, 4, 0, 0, 2, 2, 1, 0, 0, 1, 0, 2, 0, 0, 0, 1, 1, 1, 1,
  1, 0, 0, 2, 1, 1, 1, 1, 1, 1, 2, 1, 1, 1, 1, 0, 1, 2, 2, 2, 2, 3, 1, 2,
  1, 1, 2, 1, 2, 1, 2, 1, 2, 0, 0, 1, 0, 1, 1, 1, 1, 0, 0, 0, 1, 1, 1, 1,
  0, 1, 1, 2, 3, 2, 3, 2, 2, 2, 1, 1, 1, 3, 2, 1, 1, 2, 3, 3, 4, 0, 1, 1]
def qm_hins : List (List (Nat × Nat)) := [
  [(3, 148), (1, 13)], [(1, 219), (1, 7)], [(3, 55), (1, 7)], [(2, 47), (2, 48), (1, 8)], [(2, 51), (2, 52), (1, 8)], [(2, 61), (2, 62), (1, 8)], [(2, 57), (2, 58), (1, 8)], [(2, 65), (1, 9)],
  [(2, 68), (1, 8)], [(2, 73), (1, 10)], [(3, 30), (3, 31), (1, 4)], [(3, 51), (3, 52), (1, 4)], [(3, 83), (3, 84), (1, 4)], [(3, 35), (3, 36), (1, 4)], [(3, 62), (3, 63), (1, 4)], [(3, 66), (3, 67), (1, 4)],
  [(3, 58), (3, 59), (1, 4)], [(3, 74), (3, 75), (1, 4)], [(3, 80), (0, 15), (1, 4)], [(3, 42), (0, 14), (1, 4)], [(3, 48), (1, 4)], [(3, 45), (1, 4)], [(1, 207), (1, 208), (1, 2)], [(2, 129), (2, 130), (1, 2)],
  [(1, 238), (1, 2)], [(2, 5), (1, 2)], [(2, 118), (1, 2)], [(2, 25), (1, 2)], [(2, 21), (2, 22), (1, 2)], [(2, 170), (2, 171), (1, 2)], [(1, 234), (1, 235), (1, 2)], [(2, 1), (2, 2), (1, 2)],
  [(2, 17), (2, 18), (1, 2)], [(2, 166), (2, 167), (1, 2)], [(3, 209), (3, 210), (1, 2)], [(2, 30), (2, 31), (1, 2)], [(2, 162), (2, 163), (1, 2)], [(2, 12), (2, 13), (1, 2)], [(2, 148), (2, 149), (1, 2)], [(2, 144), (2, 145), (1, 2)],
  [(2, 8), (2, 9), (1, 2)], [(3, 112), (3, 113), (1, 2)], [(3, 104), (3, 105), (1, 2)], [(2, 152), (2, 153), (1, 2)], [(2, 125), (2, 126), (1, 2)], [(2, 121), (2, 122), (1, 2)], [(3, 197), (3, 198), (1, 2)], [(2, 212), (2, 213), (1, 2)],
  [(2, 224), (2, 225), (1, 2)], [(2, 191), (2, 192), (1, 2)], [(2, 187), (2, 188), (1, 2)], [(2, 183), (2, 184), (1, 2)], [(4, 75), (4, 76), (1, 2)], [(2, 179), (2, 180), (1, 2)], [(3, 17), (3, 18), (1, 2)], [(2, 175), (2, 176), (1, 2)],
  [(3, 213), (3, 214), (1, 2)], [(3, 221), (3, 222), (1, 2)], [(3, 217), (3, 218), (1, 2)], [(3, 129), (3, 130), (1, 2)], [(4, 71), (4, 72), (1, 2)], [(3, 133), (3, 134), (1, 2)], [(3, 125), (3, 126), (1, 2)], [(3, 158), (3, 159), (1, 2)],
  [(3, 174), (3, 175), (1, 2)], [(4, 11), (1, 5)], [(4, 14), (1, 5)], [(4, 26), (4, 27), (1, 5)], [(4, 30), (4, 31), (1, 5)], [(4, 59), (4, 60), (1, 5)], [(4, 17), (4, 18), (1, 5)], [(4, 35), (4, 36), (1, 5)],
  [(4, 40), (1, 5)], [(4, 47), (4, 48), (1, 5)], [(4, 51), (4, 52), (1, 5)], [(1, 187), (1, 188), (1, 3)], [(1, 199), (1, 200), (1, 3)], [(1, 204), (0, 0), (1, 3)], [(1, 227), (0, 4), (1, 3)], [(2, 35), (0, 6), (1, 3)],
  [(2, 101), (0, 9), (1, 3)], [(2, 113), (0, 12), (1, 3)], [(2, 105), (0, 10), (1, 3)], [(2, 109), (0, 11), (1, 3)], [(1, 231), (0, 5), (1, 3)], [(1, 212), (0, 1), (1, 3)], [(1, 216), (0, 2), (1, 3)], [(1, 223), (0, 3), (1, 3)],
  [(2, 39), (0, 7), (1, 3)], [(2, 44), (0, 8), (1, 3)], [(1, 183), (1, 184), (1, 1)], [(1, 191), (1, 192), (1, 1)], [(1, 195), (1, 196), (1, 1)], [(2, 136), (2, 137), (1, 1)], [(2, 140), (2, 141), (1, 1)], [(2, 156), (2, 157), (1, 1)],
  [(2, 195), (2, 196), (1, 1)], [(2, 202), (2, 203), (1, 1)], [(2, 208), (2, 209), (1, 1)], [(2, 220), (2, 221), (1, 1)], [(2, 228), (2, 229), (1, 1)], [(2, 233), (2, 234), (1, 1)], [(2, 238), (2, 239), (1, 1)], [(3, 3), (3, 4), (1, 1)],
  [(3, 7), (3, 8), (1, 1)], [(3, 13), (3, 14), (1, 1)], [(3, 26), (3, 27), (1, 1)], [(3, 70), (3, 71), (1, 1)], [(3, 87), (3, 88), (1, 1)], [(3, 92), (3, 93), (1, 1)], [(3, 100), (3, 101), (1, 1)], [(3, 108), (3, 109), (1, 1)],
  [(3, 121), (3, 122), (1, 1)], [(3, 140), (3, 141), (1, 1)], [(3, 144), (3, 145), (1, 1)], [(3, 154), (3, 155), (1, 1)], [(3, 162), (3, 163), (1, 1)], [(3, 185), (3, 186), (1, 1)], [(3, 189), (3, 190), (1, 1)], [(3, 193), (3, 194), (1, 1)],
  [(3, 201), (3, 202), (1, 1)], [(3, 205), (3, 206), (1, 1)], [(3, 226), (3, 227), (1, 1)], [(3, 232), (3, 233), (1, 1)], [(4, 3), (4, 4), (1, 1)], [(4, 7), (4, 8), (1, 1)], [(4, 22), (4, 23), (1, 1)], [(4, 43), (4, 44), (1, 1)],
  [(4, 63), (4, 64), (1, 1)], [(4, 67), (4, 68), (1, 1)], [(4, 56), (0, 19), (1, 1)], [(3, 22), (0, 13), (1, 1)], [(3, 97), (0, 16), (1, 1)], [(3, 118), (0, 17), (1, 1)], [(4, 0), (0, 18), (1, 1)], [(3, 236), (1, 1)],
  [(3, 166), (1, 1)], [(3, 169), (1, 1)], [(3, 137), (1, 1)], [(3, 179), (1, 1)], [(3, 182), (1, 1)], [(4, 177), (1, 6)], [(5, 8), (1, 6)], [(4, 86), (0, 20), (1, 6)],
  [(4, 90), (0, 21), (1, 6)], [(4, 172), (4, 173), (1, 6)], [(4, 180), (4, 181), (1, 6)], [(4, 201), (0, 24), (1, 6)], [(4, 193), (0, 23), (1, 6)], [(4, 213), (0, 27), (1, 6)], [(4, 217), (0, 28), (1, 6)], [(4, 209), (0, 26), (1, 6)],
  [(4, 189), (0, 22), (1, 6)], [(4, 229), (0, 31), (1, 6)], [(4, 225), (0, 30), (1, 6)], [(4, 237), (0, 33), (1, 6)], [(4, 233), (0, 32), (1, 6)], [(5, 1), (0, 34), (1, 6)], [(4, 221), (0, 29), (1, 6)], [(4, 205), (0, 25), (1, 6)],
  [(5, 11), (1, 6)], [(5, 5), (0, 35), (1, 6)], [(4, 184), (4, 185), (1, 6)], [(5, 14), (5, 15), (1, 6)], [(5, 47), (0, 41), (1, 6)], [(5, 79), (0, 48), (1, 6)], [(5, 99), (0, 50), (1, 6)], [(5, 90), (0, 49), (1, 6)],
  [(5, 82), (1, 6)], [(5, 23), (0, 36), (1, 6)], [(5, 117), (0, 53), (1, 6)], [(5, 39), (0, 40), (1, 6)], [(5, 63), (0, 45), (1, 6)], [(5, 31), (0, 38), (1, 6)], [(5, 35), (0, 39), (1, 6)], [(5, 67), (0, 46), (1, 6)],
  [(5, 27), (0, 37), (1, 6)], [(5, 113), (0, 52), (1, 6)], [(5, 59), (0, 44), (1, 6)], [(5, 55), (0, 43), (1, 6)], [(5, 51), (0, 42), (1, 6)], [(5, 146), (0, 55), (1, 6)], [(5, 71), (0, 47), (1, 6)], [(5, 155), (0, 56), (1, 6)],
  [(5, 18), (5, 19), (1, 6)], [(5, 42), (5, 43), (1, 6)], [(5, 74), (5, 75), (1, 6)], [(5, 85), (5, 86), (1, 6)], [(5, 105), (0, 51), (1, 6)], [(5, 94), (5, 95), (1, 6)], [(5, 108), (5, 109), (1, 6)], [(5, 120), (5, 121), (1, 6)],
  [(5, 129), (0, 54), (1, 6)], [(5, 124), (5, 125), (1, 6)], [(5, 132), (5, 133), (1, 6)], [(5, 136), (5, 137), (1, 6)], [(5, 141), (5, 142), (1, 6)], [(5, 149), (5, 150), (1, 6)], [(5, 175), (0, 59), (1, 6)], [(5, 179), (0, 60), (1, 6)],
  [(5, 171), (1, 6)], [(5, 168), (0, 58), (1, 6)], [(5, 164), (0, 57), (1, 6)], [(5, 158), (5, 159), (1, 6)], [(5, 188), (0, 61), (1, 6)], [(5, 183), (5, 184), (1, 6)], [(5, 191), (5, 192), (1, 6)], [(5, 203), (1, 6)],
  [(5, 200), (0, 62), (1, 6)], [(5, 195), (5, 196), (1, 6)], [(5, 206), (5, 207), (1, 6)], [(5, 210), (5, 211), (1, 6)], [(5, 227), (0, 65), (1, 6)], [(5, 223), (0, 64), (1, 6)], [(5, 219), (0, 63), (1, 6)], [(5, 214), (5, 215), (1, 6)],
  [(5, 230), (5, 231), (1, 6)], [(5, 234), (5, 235), (1, 6)], [(5, 238), (5, 239), (1, 6)], [(6, 15), (1, 6)], [(6, 12), (1, 6)], [(6, 8), (0, 66), (1, 6)], [(6, 2), (6, 3), (1, 6)], [(6, 18), (6, 19), (1, 6)],
  [(6, 22), (6, 23), (1, 6)], [(6, 26), (6, 27), (1, 6)], [(6, 30), (6, 31), (1, 6)], [(6, 40), (0, 67), (1, 6)], [(6, 34), (6, 35), (1, 6)], [(6, 43), (6, 44), (1, 6)], [(6, 53), (0, 68), (1, 6)], [(6, 48), (6, 49), (1, 6)],
  [(6, 56), (6, 57), (1, 6)], [(6, 64), (1, 6)], [(6, 60), (6, 61), (1, 6)], [(6, 67), (6, 68), (1, 6)], [(6, 71), (6, 72), (1, 6)], [(6, 76), (6, 77), (1, 6)], [(6, 80), (6, 81), (1, 6)], []]
def qm_cws : List (Nat × Nat) := [
  (3, 149), (1, 220), (3, 56), (2, 49), (2, 53), (2, 63), (2, 59), (2, 66),
  (2, 69), (2, 74), (3, 32), (3, 53), (3, 85), (3, 37), (3, 64), (3, 68),
  (3, 60), (3, 76), (3, 81), (3, 43), (3, 49), (3, 46), (1, 209), (2, 131),
  (1, 239), (2, 6), (2, 119), (2, 26), (2, 23), (2, 172), (1, 236), (2, 3),
  (2, 19), (2, 168), (3, 211), (2, 32), (2, 164), (2, 14), (2, 150), (2, 146),
  (2, 10), (3, 114), (3, 106), (2, 154), (2, 127), (2, 123), (3, 199), (2, 214),
  (2, 226), (2, 193), (2, 189), (2, 185), (4, 77), (2, 181), (3, 19), (2, 177),
  (3, 215), (3, 223), (3, 219), (3, 131), (4, 73), (3, 135), (3, 127), (3, 160),
  (3, 176), (4, 12), (4, 15), (4, 28), (4, 32), (4, 61), (4, 19), (4, 37),
  (4, 41), (4, 49), (4, 53), (1, 189), (1, 201), (1, 205), (1, 228), (2, 36),
  (2, 102), (2, 114), (2, 106), (2, 110), (1, 232), (1, 213), (1, 217), (1, 224),
  (2, 40), (2, 45), (1, 185), (1, 193), (1, 197), (2, 138), (2, 142), (2, 158),
  (2, 197), (2, 204), (2, 210), (2, 222), (2, 230), (2, 235), (3, 0), (3, 5),
  (3, 9), (3, 15), (3, 28), (3, 72), (3, 89), (3, 94), (3, 102), (3, 110),
  (3, 123), (3, 142), (3, 146), (3, 156), (3, 164), (3, 187), (3, 191), (3, 195),
  (3, 203), (3, 207), (3, 228), (3, 234), (4, 5), (4, 9), (4, 24), (4, 45),
  (4, 65), (4, 69), (4, 57), (3, 23), (3, 98), (3, 119), (4, 1), (3, 237),
  (3, 167), (3, 170), (3, 138), (3, 180), (3, 183), (4, 178), (5, 9), (4, 87),
  (4, 91), (4, 174), (4, 182), (4, 202), (4, 194), (4, 214), (4, 218), (4, 210),
  (4, 190), (4, 230), (4, 226), (4, 238), (4, 234), (5, 2), (4, 222), (4, 206),
  (5, 12), (5, 6), (4, 186), (5, 16), (5, 48), (5, 80), (5, 100), (5, 91),
  (5, 83), (5, 24), (5, 118), (5, 40), (5, 64), (5, 32), (5, 36), (5, 68),
  (5, 28), (5, 114), (5, 60), (5, 56), (5, 52), (5, 147), (5, 72), (5, 156),
  (5, 20), (5, 44), (5, 76), (5, 87), (5, 106), (5, 96), (5, 110), (5, 122),
  (5, 130), (5, 126), (5, 134), (5, 138), (5, 143), (5, 151), (5, 176), (5, 180),
  (5, 172), (5, 169), (5, 165), (5, 160), (5, 189), (5, 185), (5, 193), (5, 204),
  (5, 201), (5, 197), (5, 208), (5, 212), (5, 228), (5, 224), (5, 220), (5, 216),
  (5, 232), (5, 236), (6, 0), (6, 16), (6, 13), (6, 9), (6, 4), (6, 20),
  (6, 24), (6, 28), (6, 32), (6, 41), (6, 36), (6, 45), (6, 54), (6, 50),
  (6, 58), (6, 65), (6, 62), (6, 69), (6, 73), (6, 78), (6, 82), (0, 0)]
def qm_n : Nat := 240
def qm_law : Nat := 239
def qm_hasBit : Nat := 138
def qm_six : List Nat := [140, 146, 148, 150, 152, 154]
def qm_nestM : Nat := 117
def qm_nestF : Nat := 49
end
section
/-! ===== the tables' words by their places; that the data is what the class files say ===== -/
def qm_tb : List (List Cond) := [k2_sels lw_privs, tables_1_1, tables_1_2, tables_1_3, tables_1_4, tables_1_5, tables_1_6]
def qm_tbl : List Cond := lw_tbl.filter goodWord
theorem qm_tb_sub (l : List Cond) (hl : l ∈ qm_tb) (w : Cond) (hw : w ∈ l) : w ∈ lw_tbl := by
  have e : lw_tbl = k2_sels lw_privs ++ (tables_1_1 ++ (tables_1_2 ++ (tables_1_3 ++ (tables_1_4 ++ (tables_1_5 ++ tables_1_6))))) := rfl
  rw [e]
  simp only [qm_tb, List.mem_cons, List.not_mem_nil, or_false] at hl
  simp only [List.mem_append]
  rcases hl with rfl | rfl | rfl | rfl | rfl | rfl | rfl
  · exact Or.inl hw
  · exact Or.inr (Or.inl hw)
  · exact Or.inr (Or.inr (Or.inl hw))
  · exact Or.inr (Or.inr (Or.inr (Or.inl hw)))
  · exact Or.inr (Or.inr (Or.inr (Or.inr (Or.inl hw))))
  · exact Or.inr (Or.inr (Or.inr (Or.inr (Or.inr (Or.inl hw)))))
  · exact Or.inr (Or.inr (Or.inr (Or.inr (Or.inr (Or.inr hw)))))
def qm_has (j p : Nat) (w : Cond) : Bool := match qm_tb[j]? with
  | some l => decide (l[p]? = some w) && goodWord w
  | none => false
theorem qm_has_mem {j p : Nat} {w : Cond} (h : qm_has j p w = true) : w ∈ qm_tbl := by
  unfold qm_has at h
  split at h
  · rename_i l e
    rw [Bool.and_eq_true, decide_eq_true_eq] at h
    exact List.mem_filter.mpr ⟨qm_tb_sub l (List.mem_of_getElem? e) w (List.mem_of_getElem? h.1), h.2⟩
  · cases h
theorem qm_tbl_good : ∀ w ∈ qm_tbl, (w.onTables && w.keeps) = true ∨ ∃ ty, w = .arrayClass ty := fun w h => good_of_word (List.mem_filter.mp h).2
theorem qm_tbl_in : GoodIn qm_tbl qm_tbl := fun w h => ⟨h, qm_tbl_good w h⟩
def qm_own (m : Nat) : String := qm_owns.getD m ""
def qm_y (m : Nat) : MethodName := qm_ys.getD m ⟨"", "", ""⟩
def qm_b (m : Nat) : ByteArray := qm_bs.getD m code
def qm_ml (m : Nat) : Nat := qm_mls.getD m 0
def qm_ret (m : Nat) : Option FieldType := qm_rets.getD m none
def qm_fr (m : Nat) : Nat := qm_frs.getD m 0
def qm_lo (m : Nat) : Nat := qm_los.getD m 0
def qm_cls (m : Nat) : Nat := qm_clss.getD m 9
def qm_np (m : Nat) : Nat := qm_nps.getD m 0
def qm_code (m : Nat) : List qm_E := qm_codes.getD m []
def qm_find (l : List qm_E) (pc : Nat) : Option qm_I := match l with
  | [] => none
  | (k, I, _) :: t => if k = pc then some I else qm_find t pc
def qm_at (m pc : Nat) : Option qm_I := qm_find (qm_code m) pc
/-- an instruction's length -/
def qm_ln (i : Instr) : Nat := match i with
  | .bipush _ | .iload _ | .lload _ | .istore _ | .lstore _ | .ldc _ => 2
  | .sipush _ | .ldc_w _ | .ldc2_w _ | .getstatic _ | .getfield _ | .putfield _ | .invokevirtual _ | .invokestatic _ | .iinc _ _ | .ifCond _ _ | .if_icmp _ _ | .goto _ => 3
  | _ => 1
def qm_nl (i : Instr) (pc nx : Nat) : Bool := match i with
  | .tableswitch _ _ _ _ | .lookupswitch _ _ => true
  | i => nx == pc + qm_ln i
def qm_dl (i : Instr) (pc nx : Nat) : Nat := match i with
  | .tableswitch _ _ _ _ | .lookupswitch _ _ => nx - pc
  | i => qm_ln i
/-- a table's targets: from lo on, one by one -/
def qm_tgs (pc : Nat) (lo : Int) (offs : List Int) (ts : List (Int32 × Nat)) : Bool := match offs, ts with
  | [], [] => true
  | o :: offs, (v, t) :: ts => decide (v.toInt = lo) && decide ((pc : Int) + o = (t : Int)) && qm_tgs pc (lo + 1) offs ts
  | _, _ => false
def qm_lks (pc : Nat) (ps : List (Int × Int)) (ts : List (Int32 × Nat)) : Bool := match ps, ts with
  | [], [] => true
  | (x, o) :: ps, (v, t) :: ts => decide (v.toInt = x) && decide ((pc : Int) + o = (t : Int)) && qm_lks pc ps ts
  | _, _ => false
def qm_fl (own : String) (a b idx j p : Nat) : Bool := match vwCl[a]? with
  | some (_, T, N) => decide (b < N) && qm_has j p (.fieldLink own idx (T b).1 (T b).2.1 (T b).2.2.1)
  | none => false
def qm_fp (a b : Nat) : Bool := match vwCl[a]? with
  | some (_, T, _) => !(T b).2.2.2 && decide ((T b).2.2.1 = if qm_isz a b then "Z" else "I")
  | none => false
def qm_cl (m a b : Nat) : Bool := decide (a < qm_n) && (b == qm_np a) && decide (qm_fr a + 1 ≤ qm_fr m) && decide (8 + (qm_ml a + 11) + qm_lo a ≤ qm_lo m)
def qm_ck (m pc : Nat) (i : Instr) (nx a b : Nat) (v : Value) (ts : List (Int32 × Nat)) (j p : Nat) : Bool := match i with
  | .iconst n => decide (v = .int (Int32.ofInt n))
  | .bipush n => decide (v = .int (Int8.ofInt n).toInt32)
  | .sipush n => decide (v = .int (Int16.ofInt n).toInt32)
  | .lconst n => decide (v = .long (Int64.ofNat (n : Nat)))
  | .ldc idx => (match v with
    | .int x => qm_has j p (.constant (qm_own m) idx x)
    | .ref r => decide (qm_own m = "ThreadBank$TextReader") && decide (110 ≤ r ∧ r < 116) && decide (qm_six.getD (r - 110) 0 = idx)
    | _ => false)
  | .ldc_w idx => (match v with
    | .int x => qm_has j p (.constant (qm_own m) idx x)
    | _ => false)
  | .ldc2_w idx => (match v with
    | .long x => qm_has j p (.constantLong (qm_own m) idx x)
    | _ => false)
  | .getstatic idx => (match v with
    | .ref r => (decide (r = 100) && decide (qm_own m = "ThreadBank$Memory") && decide (idx = qm_nestF)) || (decide (r = 101) && qm_has j p (.fieldLink (qm_own m) idx "ThreadBank$Clearing" "RINGS" "[I")) || (decide (r = 140) && qm_has j p (.fieldLink (qm_own m) idx "jdk/internal/util/Preconditions" "SIOOBE_FORMATTER" "Ljava/util/function/BiFunction;"))
    | .int x => decide (x = 1) && qm_has j p (.fieldLink (qm_own m) idx "java/lang/String" "COMPACT_STRINGS" "Z")
    | _ => false)
  | .iload_n k => decide ((k : Nat) = a)
  | .lload_n k => decide ((k : Nat) = a)
  | .aload_n k => decide ((k : Nat) = a)
  | .iload k => decide (k = a)
  | .lload k => decide (k = a)
  | .istore_n k => decide ((k : Nat) = a) && decide (a < qm_ml m)
  | .istore k => decide (k = a) && decide (a < qm_ml m)
  | .lstore_n k => decide ((k : Nat) = a) && decide (a + 1 < qm_ml m)
  | .lstore k => decide (k = a) && decide (a + 1 < qm_ml m)
  | .iinc k n => decide (k = a) && decide (v = .int (Int32.ofInt n)) && decide (a < qm_ml m)
  | .ifCond _ off => decide ((pc : Int) + off = (a : Int))
  | .if_icmp _ off => decide ((pc : Int) + off = (a : Int))
  | .goto off => decide ((pc : Int) + off = (a : Int))
  | .tableswitch d lo hi offs => decide ((pc : Int) + d = (a : Int)) && decide (hi = lo + (offs.size : Int) - 1) && qm_tgs pc lo offs.toList ts
  | .lookupswitch d ps => decide ((pc : Int) + d = (a : Int)) && (ps.toList.zip (ps.toList.drop 1)).all (fun (x, next) => x.1 < next.1) && qm_lks pc ps.toList ts
  | .getfield idx => if a = 7 then (decide (b = 0) && qm_has j p (.fieldLink (qm_own m) idx "java/lang/String" "value" "[B")) || (decide (b = 1) && qm_has j p (.fieldLink (qm_own m) idx "java/lang/String" "coder" "B")) else qm_fl (qm_own m) a b idx j p
  | .putfield idx => qm_fl (qm_own m) a b idx j p && qm_fp a b
  | .invokevirtual idx => qm_cl m a b && decide (qm_cls a ≠ 9) && qm_has j p (.methodLink (qm_own m) idx (qm_y a))
  | .invokestatic idx => if a = 999 then qm_has j p (.methodLink (qm_own m) idx arraycopyName) && decide (1 ≤ qm_fr m) && decide (40 ≤ qm_lo m)
    else qm_cl m a b && decide (qm_cls a = 9) && (if j = 99 then decide (qm_own m = "ThreadBank$Memory") && decide (idx = qm_nestM) && decide (a = qm_hasBit) else qm_has j p (.methodLink (qm_own m) idx (qm_y a)))
  | .lreturn => decide (qm_ret m = some .long)
  | .areturn => (match qm_ret m with
    | some (.object _) => true
    | _ => false)
  | .return_ => decide (qm_ret m = none)
  | .ireturn => true
  | .iadd => true
  | .isub => true
  | .imul => true
  | .iand => true
  | .ior => true
  | .ixor => true
  | .idiv => true
  | .irem => true
  | .ishl => true
  | .ishr => true
  | .iushr => true
  | .ladd => true
  | .lsub => true
  | .lmul => true
  | .ldiv => true
  | .lrem => true
  | .lcmp => true
  | .i2l => true
  | .i2b => true
  | .i2s => true
  | .i2c => true
  | .dup => true
  | .dup2 => true
  | .pop => true
  | .pop2 => true
  | .iaload => true
  | .baload => true
  | .iastore => true
  | .bastore => true
  | .arraylength => true
  | _ => false
def qm_ok (m : Nat) (e : qm_E) : Bool := match e with
  | (pc, (i, nx, a, b, v, ts), j, p) => decide (decode (qm_b m) pc = .ok (i, qm_dl i pc nx)) && qm_nl i pc nx && qm_ck m pc i nx a b v ts j p
/-- what is asked of a method's own words -/
def qm_mk (m : Nat) : Bool := match qm_hins.getD m [] with
  | [x, y] => decide (qm_cls m = 9) && qm_has x.1 x.2 (.static (qm_y m)) && qm_has y.1 y.2 (.initialized (qm_y m).cls)
  | [x, y, z] => decide (qm_cls m ≠ 9) && qm_has x.1 x.2 (.instanceMethod (qm_y m)) && qm_has y.1 y.2 (.selects (qm_y m).cls (qm_y m) (qm_y m)) && qm_has z.1 z.2 (.initialized (qm_y m).cls) && (if qm_cls m = 7 then decide ((qm_y m).cls = "java/lang/String") else decide ((vwCl[qm_cls m]?).map (fun q => q.1) = some (qm_y m).cls))
  | _ => false
def qm_mk2 (m : Nat) : Bool := decide ((qm_y m).cls ≠ "java/lang/invoke/MethodHandle") && decide ((qm_y m).cls ≠ "java/lang/invoke/VarHandle") && decide ((parseMethodDescriptor (qm_y m).desc).map (fun d => d.parameters.length) = some (qm_np m)) && plainFor (qm_y m) && decide (qm_own m = (qm_y m).cls)
end
section
theorem qm_ok_0 : (List.range' 0 10).all (fun m => (qm_code m).all (qm_ok m)) = true := by decide +kernel
theorem qm_ok_1 : (List.range' 10 10).all (fun m => (qm_code m).all (qm_ok m)) = true := by decide +kernel
theorem qm_ok_2 : (List.range' 20 10).all (fun m => (qm_code m).all (qm_ok m)) = true := by decide +kernel
theorem qm_ok_3 : (List.range' 30 10).all (fun m => (qm_code m).all (qm_ok m)) = true := by decide +kernel
theorem qm_ok_4 : (List.range' 40 10).all (fun m => (qm_code m).all (qm_ok m)) = true := by decide +kernel
theorem qm_ok_5 : (List.range' 50 10).all (fun m => (qm_code m).all (qm_ok m)) = true := by decide +kernel
theorem qm_ok_6 : (List.range' 60 10).all (fun m => (qm_code m).all (qm_ok m)) = true := by decide +kernel
theorem qm_ok_7 : (List.range' 70 10).all (fun m => (qm_code m).all (qm_ok m)) = true := by decide +kernel
end
section
theorem qm_ok_8 : (List.range' 80 10).all (fun m => (qm_code m).all (qm_ok m)) = true := by decide +kernel
theorem qm_ok_9 : (List.range' 90 10).all (fun m => (qm_code m).all (qm_ok m)) = true := by decide +kernel
theorem qm_ok_10 : (List.range' 100 10).all (fun m => (qm_code m).all (qm_ok m)) = true := by decide +kernel
theorem qm_ok_11 : (List.range' 110 10).all (fun m => (qm_code m).all (qm_ok m)) = true := by decide +kernel
theorem qm_ok_12 : (List.range' 120 10).all (fun m => (qm_code m).all (qm_ok m)) = true := by decide +kernel
theorem qm_ok_13 : (List.range' 130 10).all (fun m => (qm_code m).all (qm_ok m)) = true := by decide +kernel
theorem qm_ok_14 : (List.range' 140 10).all (fun m => (qm_code m).all (qm_ok m)) = true := by decide +kernel
end
section
theorem qm_ok_15 : (List.range' 150 10).all (fun m => (qm_code m).all (qm_ok m)) = true := by decide +kernel
theorem qm_ok_16 : (List.range' 160 10).all (fun m => (qm_code m).all (qm_ok m)) = true := by decide +kernel
theorem qm_ok_17 : (List.range' 170 10).all (fun m => (qm_code m).all (qm_ok m)) = true := by decide +kernel
theorem qm_ok_18 : (List.range' 180 10).all (fun m => (qm_code m).all (qm_ok m)) = true := by decide +kernel
theorem qm_ok_19 : (List.range' 190 10).all (fun m => (qm_code m).all (qm_ok m)) = true := by decide +kernel
end
section
theorem qm_ok_20 : (List.range' 200 10).all (fun m => (qm_code m).all (qm_ok m)) = true := by decide +kernel
theorem qm_ok_21 : (List.range' 210 10).all (fun m => (qm_code m).all (qm_ok m)) = true := by decide +kernel
theorem qm_ok_22 : (List.range' 220 10).all (fun m => (qm_code m).all (qm_ok m)) = true := by decide +kernel
theorem qm_ok_23 : (List.range' 230 9).all (fun m => (qm_code m).all (qm_ok m)) = true := by decide +kernel
end
section
theorem qm_okl_0 : (((qm_code 239).drop 0).take 50).all (qm_ok 239) = true := by decide +kernel
theorem qm_okl_1 : (((qm_code 239).drop 50).take 50).all (qm_ok 239) = true := by decide +kernel
theorem qm_okl_2 : (((qm_code 239).drop 100).take 50).all (qm_ok 239) = true := by decide +kernel
theorem qm_okl_3 : (((qm_code 239).drop 150).take 50).all (qm_ok 239) = true := by decide +kernel
theorem qm_okl_4 : (((qm_code 239).drop 200).take 50).all (qm_ok 239) = true := by decide +kernel
theorem qm_okl_5 : (((qm_code 239).drop 250).take 50).all (qm_ok 239) = true := by decide +kernel
end
section
theorem qm_okl_6 : (((qm_code 239).drop 300).take 50).all (qm_ok 239) = true := by decide +kernel
theorem qm_okl_7 : (((qm_code 239).drop 350).take 50).all (qm_ok 239) = true := by decide +kernel
theorem qm_okl_8 : (((qm_code 239).drop 400).take 50).all (qm_ok 239) = true := by decide +kernel
theorem qm_okl_9 : (((qm_code 239).drop 450).take 50).all (qm_ok 239) = true := by decide +kernel
theorem qm_okl_10 : (((qm_code 239).drop 500).take 50).all (qm_ok 239) = true := by decide +kernel
theorem qm_okl_11 : (((qm_code 239).drop 550).take 50).all (qm_ok 239) = true := by decide +kernel
end
section
theorem qm_okl_12 : (((qm_code 239).drop 600).take 50).all (qm_ok 239) = true := by decide +kernel
theorem qm_okl_13 : (((qm_code 239).drop 650).take 50).all (qm_ok 239) = true := by decide +kernel
theorem qm_okl_14 : (((qm_code 239).drop 700).take 50).all (qm_ok 239) = true := by decide +kernel
theorem qm_okl_15 : (((qm_code 239).drop 750).take 50).all (qm_ok 239) = true := by decide +kernel
theorem qm_okl_16 : (((qm_code 239).drop 800).take 50).all (qm_ok 239) = true := by decide +kernel
end
section
theorem qm_chunk {α : Type} {p : α → Bool} {l : List α} {k c : Nat} (h1 : ((l.drop k).take c).all p = true) (h2 : (l.drop (k + c)).all p = true) : (l.drop k).all p = true := by
  rw [← List.take_append_drop c (l.drop k), List.all_append, h1, List.drop_drop, h2]
  rfl
theorem qm_okl : (qm_code 239).all (qm_ok 239) = true := by
  have e : ((qm_code 239).drop 850).all (qm_ok 239) = true := by decide +kernel
  have e := qm_chunk (k := 800) (c := 50) qm_okl_16 e
  have e := qm_chunk (k := 750) (c := 50) qm_okl_15 e
  have e := qm_chunk (k := 700) (c := 50) qm_okl_14 e
  have e := qm_chunk (k := 650) (c := 50) qm_okl_13 e
  have e := qm_chunk (k := 600) (c := 50) qm_okl_12 e
  have e := qm_chunk (k := 550) (c := 50) qm_okl_11 e
  have e := qm_chunk (k := 500) (c := 50) qm_okl_10 e
  have e := qm_chunk (k := 450) (c := 50) qm_okl_9 e
  have e := qm_chunk (k := 400) (c := 50) qm_okl_8 e
  have e := qm_chunk (k := 350) (c := 50) qm_okl_7 e
  have e := qm_chunk (k := 300) (c := 50) qm_okl_6 e
  have e := qm_chunk (k := 250) (c := 50) qm_okl_5 e
  have e := qm_chunk (k := 200) (c := 50) qm_okl_4 e
  have e := qm_chunk (k := 150) (c := 50) qm_okl_3 e
  have e := qm_chunk (k := 100) (c := 50) qm_okl_2 e
  have e := qm_chunk (k := 50) (c := 50) qm_okl_1 e
  have e := qm_chunk (k := 0) (c := 50) qm_okl_0 e
  exact e
def qm_mkk (m : Nat) : Bool := qm_mk m && qm_mk2 m
theorem qm_mk_0 : (List.range' 0 40).all qm_mkk = true := by decide +kernel
theorem qm_mk_1 : (List.range' 40 40).all qm_mkk = true := by decide +kernel
theorem qm_mk_2 : (List.range' 80 40).all qm_mkk = true := by decide +kernel
theorem qm_mk_3 : (List.range' 120 40).all qm_mkk = true := by decide +kernel
theorem qm_mk_4 : (List.range' 160 40).all qm_mkk = true := by decide +kernel
theorem qm_mk_5 : (List.range' 200 39).all qm_mkk = true := by decide +kernel
theorem qm_valid (m : Nat) (hm : m < qm_n) : (qm_code m).all (qm_ok m) = true := by
  have hm : m < 240 := hm
  have key : ∀ (k n : Nat), (List.range' k n).all (fun m => (qm_code m).all (qm_ok m)) = true → k ≤ m → m < k + n → (qm_code m).all (qm_ok m) = true := fun k n h h1 h2 => List.all_eq_true.mp h m (List.mem_range'_1.mpr ⟨h1, h2⟩)
  by_cases h0 : m < 10
  · exact key 0 10 qm_ok_0 (by omega) (by omega)
  by_cases h1 : m < 20
  · exact key 10 10 qm_ok_1 (by omega) (by omega)
  by_cases h2 : m < 30
  · exact key 20 10 qm_ok_2 (by omega) (by omega)
  by_cases h3 : m < 40
  · exact key 30 10 qm_ok_3 (by omega) (by omega)
  by_cases h4 : m < 50
  · exact key 40 10 qm_ok_4 (by omega) (by omega)
  by_cases h5 : m < 60
  · exact key 50 10 qm_ok_5 (by omega) (by omega)
  by_cases h6 : m < 70
  · exact key 60 10 qm_ok_6 (by omega) (by omega)
  by_cases h7 : m < 80
  · exact key 70 10 qm_ok_7 (by omega) (by omega)
  by_cases h8 : m < 90
  · exact key 80 10 qm_ok_8 (by omega) (by omega)
  by_cases h9 : m < 100
  · exact key 90 10 qm_ok_9 (by omega) (by omega)
  by_cases h10 : m < 110
  · exact key 100 10 qm_ok_10 (by omega) (by omega)
  by_cases h11 : m < 120
  · exact key 110 10 qm_ok_11 (by omega) (by omega)
  by_cases h12 : m < 130
  · exact key 120 10 qm_ok_12 (by omega) (by omega)
  by_cases h13 : m < 140
  · exact key 130 10 qm_ok_13 (by omega) (by omega)
  by_cases h14 : m < 150
  · exact key 140 10 qm_ok_14 (by omega) (by omega)
  by_cases h15 : m < 160
  · exact key 150 10 qm_ok_15 (by omega) (by omega)
  by_cases h16 : m < 170
  · exact key 160 10 qm_ok_16 (by omega) (by omega)
  by_cases h17 : m < 180
  · exact key 170 10 qm_ok_17 (by omega) (by omega)
  by_cases h18 : m < 190
  · exact key 180 10 qm_ok_18 (by omega) (by omega)
  by_cases h19 : m < 200
  · exact key 190 10 qm_ok_19 (by omega) (by omega)
  by_cases h20 : m < 210
  · exact key 200 10 qm_ok_20 (by omega) (by omega)
  by_cases h21 : m < 220
  · exact key 210 10 qm_ok_21 (by omega) (by omega)
  by_cases h22 : m < 230
  · exact key 220 10 qm_ok_22 (by omega) (by omega)
  by_cases h23 : m < 239
  · exact key 230 9 qm_ok_23 (by omega) (by omega)
  have e : m = 239 := by omega
  subst e
  exact qm_okl
theorem qm_mval (m : Nat) (hm : m < qm_law) : (qm_mk m && qm_mk2 m) = true := by
  have hm : m < 239 := hm
  have key : ∀ (k n : Nat), (List.range' k n).all qm_mkk = true → k ≤ m → m < k + n → (qm_mk m && qm_mk2 m) = true := fun k n h h1 h2 => List.all_eq_true.mp h m (List.mem_range'_1.mpr ⟨h1, h2⟩)
  by_cases h0 : m < 40
  · exact key 0 40 qm_mk_0 (by omega) (by omega)
  by_cases h1 : m < 80
  · exact key 40 40 qm_mk_1 (by omega) (by omega)
  by_cases h2 : m < 120
  · exact key 80 40 qm_mk_2 (by omega) (by omega)
  by_cases h3 : m < 160
  · exact key 120 40 qm_mk_3 (by omega) (by omega)
  by_cases h4 : m < 200
  · exact key 160 40 qm_mk_4 (by omega) (by omega)
  by_cases h5 : m < 239
  · exact key 200 39 qm_mk_5 (by omega) (by omega)
  exact absurd hm (by omega)
end
section
theorem qm_tbm_0 : k2_sels lw_privs ∈ qm_tb := List.mem_of_getElem? (i := 0) rfl
theorem qm_tbm_1 : tables_1_1 ∈ qm_tb := List.mem_of_getElem? (i := 1) rfl
theorem qm_tbm_2 : tables_1_2 ∈ qm_tb := List.mem_of_getElem? (i := 2) rfl
theorem qm_tbm_3 : tables_1_3 ∈ qm_tb := List.mem_of_getElem? (i := 3) rfl
theorem qm_tbm_4 : tables_1_4 ∈ qm_tb := List.mem_of_getElem? (i := 4) rfl
theorem qm_tbm_5 : tables_1_5 ∈ qm_tb := List.mem_of_getElem? (i := 5) rfl
theorem qm_tbm_6 : tables_1_6 ∈ qm_tb := List.mem_of_getElem? (i := 6) rfl
theorem qm_tb_mem {l : List Cond} {p : Nat} {w : Cond} (hl : l ∈ qm_tb) (h : l[p]? = some w) (hg : goodWord w = true) : w ∈ qm_tbl := List.mem_filter.mpr ⟨qm_tb_sub l hl w (List.mem_of_getElem? h), hg⟩
theorem qw_0 : Cond.code (qm_y 0) (qm_b 0) (qm_ml 0) (qm_ret 0) ∈ qm_tbl := qm_tb_mem (p := 149) qm_tbm_3 rfl rfl
theorem qw_1 : Cond.code (qm_y 1) (qm_b 1) (qm_ml 1) (qm_ret 1) ∈ qm_tbl := qm_tb_mem (p := 220) qm_tbm_1 rfl rfl
theorem qw_2 : Cond.code (qm_y 2) (qm_b 2) (qm_ml 2) (qm_ret 2) ∈ qm_tbl := qm_tb_mem (p := 56) qm_tbm_3 rfl rfl
theorem qw_3 : Cond.code (qm_y 3) (qm_b 3) (qm_ml 3) (qm_ret 3) ∈ qm_tbl := qm_tb_mem (p := 49) qm_tbm_2 rfl rfl
theorem qw_4 : Cond.code (qm_y 4) (qm_b 4) (qm_ml 4) (qm_ret 4) ∈ qm_tbl := qm_tb_mem (p := 53) qm_tbm_2 rfl rfl
theorem qw_5 : Cond.code (qm_y 5) (qm_b 5) (qm_ml 5) (qm_ret 5) ∈ qm_tbl := qm_tb_mem (p := 63) qm_tbm_2 rfl rfl
theorem qw_6 : Cond.code (qm_y 6) (qm_b 6) (qm_ml 6) (qm_ret 6) ∈ qm_tbl := qm_tb_mem (p := 59) qm_tbm_2 rfl rfl
theorem qw_7 : Cond.code (qm_y 7) (qm_b 7) (qm_ml 7) (qm_ret 7) ∈ qm_tbl := qm_tb_mem (p := 66) qm_tbm_2 rfl rfl
theorem qw_8 : Cond.code (qm_y 8) (qm_b 8) (qm_ml 8) (qm_ret 8) ∈ qm_tbl := qm_tb_mem (p := 69) qm_tbm_2 rfl rfl
theorem qw_9 : Cond.code (qm_y 9) (qm_b 9) (qm_ml 9) (qm_ret 9) ∈ qm_tbl := qm_tb_mem (p := 74) qm_tbm_2 rfl rfl
theorem qw_10 : Cond.code (qm_y 10) (qm_b 10) (qm_ml 10) (qm_ret 10) ∈ qm_tbl := qm_tb_mem (p := 32) qm_tbm_3 rfl rfl
theorem qw_11 : Cond.code (qm_y 11) (qm_b 11) (qm_ml 11) (qm_ret 11) ∈ qm_tbl := qm_tb_mem (p := 53) qm_tbm_3 rfl rfl
theorem qw_12 : Cond.code (qm_y 12) (qm_b 12) (qm_ml 12) (qm_ret 12) ∈ qm_tbl := qm_tb_mem (p := 85) qm_tbm_3 rfl rfl
theorem qw_13 : Cond.code (qm_y 13) (qm_b 13) (qm_ml 13) (qm_ret 13) ∈ qm_tbl := qm_tb_mem (p := 37) qm_tbm_3 rfl rfl
theorem qw_14 : Cond.code (qm_y 14) (qm_b 14) (qm_ml 14) (qm_ret 14) ∈ qm_tbl := qm_tb_mem (p := 64) qm_tbm_3 rfl rfl
theorem qw_15 : Cond.code (qm_y 15) (qm_b 15) (qm_ml 15) (qm_ret 15) ∈ qm_tbl := qm_tb_mem (p := 68) qm_tbm_3 rfl rfl
theorem qw_16 : Cond.code (qm_y 16) (qm_b 16) (qm_ml 16) (qm_ret 16) ∈ qm_tbl := qm_tb_mem (p := 60) qm_tbm_3 rfl rfl
theorem qw_17 : Cond.code (qm_y 17) (qm_b 17) (qm_ml 17) (qm_ret 17) ∈ qm_tbl := qm_tb_mem (p := 76) qm_tbm_3 rfl rfl
theorem qw_18 : Cond.code (qm_y 18) (qm_b 18) (qm_ml 18) (qm_ret 18) ∈ qm_tbl := qm_tb_mem (p := 81) qm_tbm_3 rfl rfl
theorem qw_19 : Cond.code (qm_y 19) (qm_b 19) (qm_ml 19) (qm_ret 19) ∈ qm_tbl := qm_tb_mem (p := 43) qm_tbm_3 rfl rfl
theorem qw_20 : Cond.code (qm_y 20) (qm_b 20) (qm_ml 20) (qm_ret 20) ∈ qm_tbl := qm_tb_mem (p := 49) qm_tbm_3 rfl rfl
theorem qw_21 : Cond.code (qm_y 21) (qm_b 21) (qm_ml 21) (qm_ret 21) ∈ qm_tbl := qm_tb_mem (p := 46) qm_tbm_3 rfl rfl
theorem qw_22 : Cond.code (qm_y 22) (qm_b 22) (qm_ml 22) (qm_ret 22) ∈ qm_tbl := qm_tb_mem (p := 209) qm_tbm_1 rfl rfl
theorem qw_23 : Cond.code (qm_y 23) (qm_b 23) (qm_ml 23) (qm_ret 23) ∈ qm_tbl := qm_tb_mem (p := 131) qm_tbm_2 rfl rfl
theorem qw_24 : Cond.code (qm_y 24) (qm_b 24) (qm_ml 24) (qm_ret 24) ∈ qm_tbl := qm_tb_mem (p := 239) qm_tbm_1 rfl rfl
theorem qw_25 : Cond.code (qm_y 25) (qm_b 25) (qm_ml 25) (qm_ret 25) ∈ qm_tbl := qm_tb_mem (p := 6) qm_tbm_2 rfl rfl
theorem qw_26 : Cond.code (qm_y 26) (qm_b 26) (qm_ml 26) (qm_ret 26) ∈ qm_tbl := qm_tb_mem (p := 119) qm_tbm_2 rfl rfl
theorem qw_27 : Cond.code (qm_y 27) (qm_b 27) (qm_ml 27) (qm_ret 27) ∈ qm_tbl := qm_tb_mem (p := 26) qm_tbm_2 rfl rfl
theorem qw_28 : Cond.code (qm_y 28) (qm_b 28) (qm_ml 28) (qm_ret 28) ∈ qm_tbl := qm_tb_mem (p := 23) qm_tbm_2 rfl rfl
theorem qw_29 : Cond.code (qm_y 29) (qm_b 29) (qm_ml 29) (qm_ret 29) ∈ qm_tbl := qm_tb_mem (p := 172) qm_tbm_2 rfl rfl
theorem qw_30 : Cond.code (qm_y 30) (qm_b 30) (qm_ml 30) (qm_ret 30) ∈ qm_tbl := qm_tb_mem (p := 236) qm_tbm_1 rfl rfl
theorem qw_31 : Cond.code (qm_y 31) (qm_b 31) (qm_ml 31) (qm_ret 31) ∈ qm_tbl := qm_tb_mem (p := 3) qm_tbm_2 rfl rfl
theorem qw_32 : Cond.code (qm_y 32) (qm_b 32) (qm_ml 32) (qm_ret 32) ∈ qm_tbl := qm_tb_mem (p := 19) qm_tbm_2 rfl rfl
theorem qw_33 : Cond.code (qm_y 33) (qm_b 33) (qm_ml 33) (qm_ret 33) ∈ qm_tbl := qm_tb_mem (p := 168) qm_tbm_2 rfl rfl
theorem qw_34 : Cond.code (qm_y 34) (qm_b 34) (qm_ml 34) (qm_ret 34) ∈ qm_tbl := qm_tb_mem (p := 211) qm_tbm_3 rfl rfl
theorem qw_35 : Cond.code (qm_y 35) (qm_b 35) (qm_ml 35) (qm_ret 35) ∈ qm_tbl := qm_tb_mem (p := 32) qm_tbm_2 rfl rfl
theorem qw_36 : Cond.code (qm_y 36) (qm_b 36) (qm_ml 36) (qm_ret 36) ∈ qm_tbl := qm_tb_mem (p := 164) qm_tbm_2 rfl rfl
theorem qw_37 : Cond.code (qm_y 37) (qm_b 37) (qm_ml 37) (qm_ret 37) ∈ qm_tbl := qm_tb_mem (p := 14) qm_tbm_2 rfl rfl
theorem qw_38 : Cond.code (qm_y 38) (qm_b 38) (qm_ml 38) (qm_ret 38) ∈ qm_tbl := qm_tb_mem (p := 150) qm_tbm_2 rfl rfl
theorem qw_39 : Cond.code (qm_y 39) (qm_b 39) (qm_ml 39) (qm_ret 39) ∈ qm_tbl := qm_tb_mem (p := 146) qm_tbm_2 rfl rfl
theorem qw_40 : Cond.code (qm_y 40) (qm_b 40) (qm_ml 40) (qm_ret 40) ∈ qm_tbl := qm_tb_mem (p := 10) qm_tbm_2 rfl rfl
theorem qw_41 : Cond.code (qm_y 41) (qm_b 41) (qm_ml 41) (qm_ret 41) ∈ qm_tbl := qm_tb_mem (p := 114) qm_tbm_3 rfl rfl
theorem qw_42 : Cond.code (qm_y 42) (qm_b 42) (qm_ml 42) (qm_ret 42) ∈ qm_tbl := qm_tb_mem (p := 106) qm_tbm_3 rfl rfl
theorem qw_43 : Cond.code (qm_y 43) (qm_b 43) (qm_ml 43) (qm_ret 43) ∈ qm_tbl := qm_tb_mem (p := 154) qm_tbm_2 rfl rfl
theorem qw_44 : Cond.code (qm_y 44) (qm_b 44) (qm_ml 44) (qm_ret 44) ∈ qm_tbl := qm_tb_mem (p := 127) qm_tbm_2 rfl rfl
theorem qw_45 : Cond.code (qm_y 45) (qm_b 45) (qm_ml 45) (qm_ret 45) ∈ qm_tbl := qm_tb_mem (p := 123) qm_tbm_2 rfl rfl
theorem qw_46 : Cond.code (qm_y 46) (qm_b 46) (qm_ml 46) (qm_ret 46) ∈ qm_tbl := qm_tb_mem (p := 199) qm_tbm_3 rfl rfl
theorem qw_47 : Cond.code (qm_y 47) (qm_b 47) (qm_ml 47) (qm_ret 47) ∈ qm_tbl := qm_tb_mem (p := 214) qm_tbm_2 rfl rfl
theorem qw_48 : Cond.code (qm_y 48) (qm_b 48) (qm_ml 48) (qm_ret 48) ∈ qm_tbl := qm_tb_mem (p := 226) qm_tbm_2 rfl rfl
theorem qw_49 : Cond.code (qm_y 49) (qm_b 49) (qm_ml 49) (qm_ret 49) ∈ qm_tbl := qm_tb_mem (p := 193) qm_tbm_2 rfl rfl
theorem qw_50 : Cond.code (qm_y 50) (qm_b 50) (qm_ml 50) (qm_ret 50) ∈ qm_tbl := qm_tb_mem (p := 189) qm_tbm_2 rfl rfl
theorem qw_51 : Cond.code (qm_y 51) (qm_b 51) (qm_ml 51) (qm_ret 51) ∈ qm_tbl := qm_tb_mem (p := 185) qm_tbm_2 rfl rfl
theorem qw_52 : Cond.code (qm_y 52) (qm_b 52) (qm_ml 52) (qm_ret 52) ∈ qm_tbl := qm_tb_mem (p := 77) qm_tbm_4 rfl rfl
theorem qw_53 : Cond.code (qm_y 53) (qm_b 53) (qm_ml 53) (qm_ret 53) ∈ qm_tbl := qm_tb_mem (p := 181) qm_tbm_2 rfl rfl
theorem qw_54 : Cond.code (qm_y 54) (qm_b 54) (qm_ml 54) (qm_ret 54) ∈ qm_tbl := qm_tb_mem (p := 19) qm_tbm_3 rfl rfl
theorem qw_55 : Cond.code (qm_y 55) (qm_b 55) (qm_ml 55) (qm_ret 55) ∈ qm_tbl := qm_tb_mem (p := 177) qm_tbm_2 rfl rfl
theorem qw_56 : Cond.code (qm_y 56) (qm_b 56) (qm_ml 56) (qm_ret 56) ∈ qm_tbl := qm_tb_mem (p := 215) qm_tbm_3 rfl rfl
theorem qw_57 : Cond.code (qm_y 57) (qm_b 57) (qm_ml 57) (qm_ret 57) ∈ qm_tbl := qm_tb_mem (p := 223) qm_tbm_3 rfl rfl
theorem qw_58 : Cond.code (qm_y 58) (qm_b 58) (qm_ml 58) (qm_ret 58) ∈ qm_tbl := qm_tb_mem (p := 219) qm_tbm_3 rfl rfl
theorem qw_59 : Cond.code (qm_y 59) (qm_b 59) (qm_ml 59) (qm_ret 59) ∈ qm_tbl := qm_tb_mem (p := 131) qm_tbm_3 rfl rfl
theorem qw_60 : Cond.code (qm_y 60) (qm_b 60) (qm_ml 60) (qm_ret 60) ∈ qm_tbl := qm_tb_mem (p := 73) qm_tbm_4 rfl rfl
theorem qw_61 : Cond.code (qm_y 61) (qm_b 61) (qm_ml 61) (qm_ret 61) ∈ qm_tbl := qm_tb_mem (p := 135) qm_tbm_3 rfl rfl
theorem qw_62 : Cond.code (qm_y 62) (qm_b 62) (qm_ml 62) (qm_ret 62) ∈ qm_tbl := qm_tb_mem (p := 127) qm_tbm_3 rfl rfl
theorem qw_63 : Cond.code (qm_y 63) (qm_b 63) (qm_ml 63) (qm_ret 63) ∈ qm_tbl := qm_tb_mem (p := 160) qm_tbm_3 rfl rfl
theorem qw_64 : Cond.code (qm_y 64) (qm_b 64) (qm_ml 64) (qm_ret 64) ∈ qm_tbl := qm_tb_mem (p := 176) qm_tbm_3 rfl rfl
theorem qw_65 : Cond.code (qm_y 65) (qm_b 65) (qm_ml 65) (qm_ret 65) ∈ qm_tbl := qm_tb_mem (p := 12) qm_tbm_4 rfl rfl
theorem qw_66 : Cond.code (qm_y 66) (qm_b 66) (qm_ml 66) (qm_ret 66) ∈ qm_tbl := qm_tb_mem (p := 15) qm_tbm_4 rfl rfl
theorem qw_67 : Cond.code (qm_y 67) (qm_b 67) (qm_ml 67) (qm_ret 67) ∈ qm_tbl := qm_tb_mem (p := 28) qm_tbm_4 rfl rfl
theorem qw_68 : Cond.code (qm_y 68) (qm_b 68) (qm_ml 68) (qm_ret 68) ∈ qm_tbl := qm_tb_mem (p := 32) qm_tbm_4 rfl rfl
theorem qw_69 : Cond.code (qm_y 69) (qm_b 69) (qm_ml 69) (qm_ret 69) ∈ qm_tbl := qm_tb_mem (p := 61) qm_tbm_4 rfl rfl
theorem qw_70 : Cond.code (qm_y 70) (qm_b 70) (qm_ml 70) (qm_ret 70) ∈ qm_tbl := qm_tb_mem (p := 19) qm_tbm_4 rfl rfl
theorem qw_71 : Cond.code (qm_y 71) (qm_b 71) (qm_ml 71) (qm_ret 71) ∈ qm_tbl := qm_tb_mem (p := 37) qm_tbm_4 rfl rfl
theorem qw_72 : Cond.code (qm_y 72) (qm_b 72) (qm_ml 72) (qm_ret 72) ∈ qm_tbl := qm_tb_mem (p := 41) qm_tbm_4 rfl rfl
theorem qw_73 : Cond.code (qm_y 73) (qm_b 73) (qm_ml 73) (qm_ret 73) ∈ qm_tbl := qm_tb_mem (p := 49) qm_tbm_4 rfl rfl
theorem qw_74 : Cond.code (qm_y 74) (qm_b 74) (qm_ml 74) (qm_ret 74) ∈ qm_tbl := qm_tb_mem (p := 53) qm_tbm_4 rfl rfl
theorem qw_75 : Cond.code (qm_y 75) (qm_b 75) (qm_ml 75) (qm_ret 75) ∈ qm_tbl := qm_tb_mem (p := 189) qm_tbm_1 rfl rfl
theorem qw_76 : Cond.code (qm_y 76) (qm_b 76) (qm_ml 76) (qm_ret 76) ∈ qm_tbl := qm_tb_mem (p := 201) qm_tbm_1 rfl rfl
theorem qw_77 : Cond.code (qm_y 77) (qm_b 77) (qm_ml 77) (qm_ret 77) ∈ qm_tbl := qm_tb_mem (p := 205) qm_tbm_1 rfl rfl
theorem qw_78 : Cond.code (qm_y 78) (qm_b 78) (qm_ml 78) (qm_ret 78) ∈ qm_tbl := qm_tb_mem (p := 228) qm_tbm_1 rfl rfl
theorem qw_79 : Cond.code (qm_y 79) (qm_b 79) (qm_ml 79) (qm_ret 79) ∈ qm_tbl := qm_tb_mem (p := 36) qm_tbm_2 rfl rfl
theorem qw_80 : Cond.code (qm_y 80) (qm_b 80) (qm_ml 80) (qm_ret 80) ∈ qm_tbl := qm_tb_mem (p := 102) qm_tbm_2 rfl rfl
theorem qw_81 : Cond.code (qm_y 81) (qm_b 81) (qm_ml 81) (qm_ret 81) ∈ qm_tbl := qm_tb_mem (p := 114) qm_tbm_2 rfl rfl
theorem qw_82 : Cond.code (qm_y 82) (qm_b 82) (qm_ml 82) (qm_ret 82) ∈ qm_tbl := qm_tb_mem (p := 106) qm_tbm_2 rfl rfl
theorem qw_83 : Cond.code (qm_y 83) (qm_b 83) (qm_ml 83) (qm_ret 83) ∈ qm_tbl := qm_tb_mem (p := 110) qm_tbm_2 rfl rfl
theorem qw_84 : Cond.code (qm_y 84) (qm_b 84) (qm_ml 84) (qm_ret 84) ∈ qm_tbl := qm_tb_mem (p := 232) qm_tbm_1 rfl rfl
theorem qw_85 : Cond.code (qm_y 85) (qm_b 85) (qm_ml 85) (qm_ret 85) ∈ qm_tbl := qm_tb_mem (p := 213) qm_tbm_1 rfl rfl
theorem qw_86 : Cond.code (qm_y 86) (qm_b 86) (qm_ml 86) (qm_ret 86) ∈ qm_tbl := qm_tb_mem (p := 217) qm_tbm_1 rfl rfl
theorem qw_87 : Cond.code (qm_y 87) (qm_b 87) (qm_ml 87) (qm_ret 87) ∈ qm_tbl := qm_tb_mem (p := 224) qm_tbm_1 rfl rfl
theorem qw_88 : Cond.code (qm_y 88) (qm_b 88) (qm_ml 88) (qm_ret 88) ∈ qm_tbl := qm_tb_mem (p := 40) qm_tbm_2 rfl rfl
theorem qw_89 : Cond.code (qm_y 89) (qm_b 89) (qm_ml 89) (qm_ret 89) ∈ qm_tbl := qm_tb_mem (p := 45) qm_tbm_2 rfl rfl
theorem qw_90 : Cond.code (qm_y 90) (qm_b 90) (qm_ml 90) (qm_ret 90) ∈ qm_tbl := qm_tb_mem (p := 185) qm_tbm_1 rfl rfl
theorem qw_91 : Cond.code (qm_y 91) (qm_b 91) (qm_ml 91) (qm_ret 91) ∈ qm_tbl := qm_tb_mem (p := 193) qm_tbm_1 rfl rfl
theorem qw_92 : Cond.code (qm_y 92) (qm_b 92) (qm_ml 92) (qm_ret 92) ∈ qm_tbl := qm_tb_mem (p := 197) qm_tbm_1 rfl rfl
theorem qw_93 : Cond.code (qm_y 93) (qm_b 93) (qm_ml 93) (qm_ret 93) ∈ qm_tbl := qm_tb_mem (p := 138) qm_tbm_2 rfl rfl
theorem qw_94 : Cond.code (qm_y 94) (qm_b 94) (qm_ml 94) (qm_ret 94) ∈ qm_tbl := qm_tb_mem (p := 142) qm_tbm_2 rfl rfl
theorem qw_95 : Cond.code (qm_y 95) (qm_b 95) (qm_ml 95) (qm_ret 95) ∈ qm_tbl := qm_tb_mem (p := 158) qm_tbm_2 rfl rfl
theorem qw_96 : Cond.code (qm_y 96) (qm_b 96) (qm_ml 96) (qm_ret 96) ∈ qm_tbl := qm_tb_mem (p := 197) qm_tbm_2 rfl rfl
theorem qw_97 : Cond.code (qm_y 97) (qm_b 97) (qm_ml 97) (qm_ret 97) ∈ qm_tbl := qm_tb_mem (p := 204) qm_tbm_2 rfl rfl
theorem qw_98 : Cond.code (qm_y 98) (qm_b 98) (qm_ml 98) (qm_ret 98) ∈ qm_tbl := qm_tb_mem (p := 210) qm_tbm_2 rfl rfl
theorem qw_99 : Cond.code (qm_y 99) (qm_b 99) (qm_ml 99) (qm_ret 99) ∈ qm_tbl := qm_tb_mem (p := 222) qm_tbm_2 rfl rfl
theorem qw_100 : Cond.code (qm_y 100) (qm_b 100) (qm_ml 100) (qm_ret 100) ∈ qm_tbl := qm_tb_mem (p := 230) qm_tbm_2 rfl rfl
theorem qw_101 : Cond.code (qm_y 101) (qm_b 101) (qm_ml 101) (qm_ret 101) ∈ qm_tbl := qm_tb_mem (p := 235) qm_tbm_2 rfl rfl
theorem qw_102 : Cond.code (qm_y 102) (qm_b 102) (qm_ml 102) (qm_ret 102) ∈ qm_tbl := qm_tb_mem (p := 0) qm_tbm_3 rfl rfl
theorem qw_103 : Cond.code (qm_y 103) (qm_b 103) (qm_ml 103) (qm_ret 103) ∈ qm_tbl := qm_tb_mem (p := 5) qm_tbm_3 rfl rfl
theorem qw_104 : Cond.code (qm_y 104) (qm_b 104) (qm_ml 104) (qm_ret 104) ∈ qm_tbl := qm_tb_mem (p := 9) qm_tbm_3 rfl rfl
theorem qw_105 : Cond.code (qm_y 105) (qm_b 105) (qm_ml 105) (qm_ret 105) ∈ qm_tbl := qm_tb_mem (p := 15) qm_tbm_3 rfl rfl
theorem qw_106 : Cond.code (qm_y 106) (qm_b 106) (qm_ml 106) (qm_ret 106) ∈ qm_tbl := qm_tb_mem (p := 28) qm_tbm_3 rfl rfl
theorem qw_107 : Cond.code (qm_y 107) (qm_b 107) (qm_ml 107) (qm_ret 107) ∈ qm_tbl := qm_tb_mem (p := 72) qm_tbm_3 rfl rfl
theorem qw_108 : Cond.code (qm_y 108) (qm_b 108) (qm_ml 108) (qm_ret 108) ∈ qm_tbl := qm_tb_mem (p := 89) qm_tbm_3 rfl rfl
theorem qw_109 : Cond.code (qm_y 109) (qm_b 109) (qm_ml 109) (qm_ret 109) ∈ qm_tbl := qm_tb_mem (p := 94) qm_tbm_3 rfl rfl
theorem qw_110 : Cond.code (qm_y 110) (qm_b 110) (qm_ml 110) (qm_ret 110) ∈ qm_tbl := qm_tb_mem (p := 102) qm_tbm_3 rfl rfl
theorem qw_111 : Cond.code (qm_y 111) (qm_b 111) (qm_ml 111) (qm_ret 111) ∈ qm_tbl := qm_tb_mem (p := 110) qm_tbm_3 rfl rfl
theorem qw_112 : Cond.code (qm_y 112) (qm_b 112) (qm_ml 112) (qm_ret 112) ∈ qm_tbl := qm_tb_mem (p := 123) qm_tbm_3 rfl rfl
theorem qw_113 : Cond.code (qm_y 113) (qm_b 113) (qm_ml 113) (qm_ret 113) ∈ qm_tbl := qm_tb_mem (p := 142) qm_tbm_3 rfl rfl
theorem qw_114 : Cond.code (qm_y 114) (qm_b 114) (qm_ml 114) (qm_ret 114) ∈ qm_tbl := qm_tb_mem (p := 146) qm_tbm_3 rfl rfl
theorem qw_115 : Cond.code (qm_y 115) (qm_b 115) (qm_ml 115) (qm_ret 115) ∈ qm_tbl := qm_tb_mem (p := 156) qm_tbm_3 rfl rfl
theorem qw_116 : Cond.code (qm_y 116) (qm_b 116) (qm_ml 116) (qm_ret 116) ∈ qm_tbl := qm_tb_mem (p := 164) qm_tbm_3 rfl rfl
theorem qw_117 : Cond.code (qm_y 117) (qm_b 117) (qm_ml 117) (qm_ret 117) ∈ qm_tbl := qm_tb_mem (p := 187) qm_tbm_3 rfl rfl
theorem qw_118 : Cond.code (qm_y 118) (qm_b 118) (qm_ml 118) (qm_ret 118) ∈ qm_tbl := qm_tb_mem (p := 191) qm_tbm_3 rfl rfl
theorem qw_119 : Cond.code (qm_y 119) (qm_b 119) (qm_ml 119) (qm_ret 119) ∈ qm_tbl := qm_tb_mem (p := 195) qm_tbm_3 rfl rfl
theorem qw_120 : Cond.code (qm_y 120) (qm_b 120) (qm_ml 120) (qm_ret 120) ∈ qm_tbl := qm_tb_mem (p := 203) qm_tbm_3 rfl rfl
theorem qw_121 : Cond.code (qm_y 121) (qm_b 121) (qm_ml 121) (qm_ret 121) ∈ qm_tbl := qm_tb_mem (p := 207) qm_tbm_3 rfl rfl
theorem qw_122 : Cond.code (qm_y 122) (qm_b 122) (qm_ml 122) (qm_ret 122) ∈ qm_tbl := qm_tb_mem (p := 228) qm_tbm_3 rfl rfl
theorem qw_123 : Cond.code (qm_y 123) (qm_b 123) (qm_ml 123) (qm_ret 123) ∈ qm_tbl := qm_tb_mem (p := 234) qm_tbm_3 rfl rfl
theorem qw_124 : Cond.code (qm_y 124) (qm_b 124) (qm_ml 124) (qm_ret 124) ∈ qm_tbl := qm_tb_mem (p := 5) qm_tbm_4 rfl rfl
theorem qw_125 : Cond.code (qm_y 125) (qm_b 125) (qm_ml 125) (qm_ret 125) ∈ qm_tbl := qm_tb_mem (p := 9) qm_tbm_4 rfl rfl
theorem qw_126 : Cond.code (qm_y 126) (qm_b 126) (qm_ml 126) (qm_ret 126) ∈ qm_tbl := qm_tb_mem (p := 24) qm_tbm_4 rfl rfl
theorem qw_127 : Cond.code (qm_y 127) (qm_b 127) (qm_ml 127) (qm_ret 127) ∈ qm_tbl := qm_tb_mem (p := 45) qm_tbm_4 rfl rfl
theorem qw_128 : Cond.code (qm_y 128) (qm_b 128) (qm_ml 128) (qm_ret 128) ∈ qm_tbl := qm_tb_mem (p := 65) qm_tbm_4 rfl rfl
theorem qw_129 : Cond.code (qm_y 129) (qm_b 129) (qm_ml 129) (qm_ret 129) ∈ qm_tbl := qm_tb_mem (p := 69) qm_tbm_4 rfl rfl
theorem qw_130 : Cond.code (qm_y 130) (qm_b 130) (qm_ml 130) (qm_ret 130) ∈ qm_tbl := qm_tb_mem (p := 57) qm_tbm_4 rfl rfl
theorem qw_131 : Cond.code (qm_y 131) (qm_b 131) (qm_ml 131) (qm_ret 131) ∈ qm_tbl := qm_tb_mem (p := 23) qm_tbm_3 rfl rfl
theorem qw_132 : Cond.code (qm_y 132) (qm_b 132) (qm_ml 132) (qm_ret 132) ∈ qm_tbl := qm_tb_mem (p := 98) qm_tbm_3 rfl rfl
theorem qw_133 : Cond.code (qm_y 133) (qm_b 133) (qm_ml 133) (qm_ret 133) ∈ qm_tbl := qm_tb_mem (p := 119) qm_tbm_3 rfl rfl
theorem qw_134 : Cond.code (qm_y 134) (qm_b 134) (qm_ml 134) (qm_ret 134) ∈ qm_tbl := qm_tb_mem (p := 1) qm_tbm_4 rfl rfl
theorem qw_135 : Cond.code (qm_y 135) (qm_b 135) (qm_ml 135) (qm_ret 135) ∈ qm_tbl := qm_tb_mem (p := 237) qm_tbm_3 rfl rfl
theorem qw_136 : Cond.code (qm_y 136) (qm_b 136) (qm_ml 136) (qm_ret 136) ∈ qm_tbl := qm_tb_mem (p := 167) qm_tbm_3 rfl rfl
theorem qw_137 : Cond.code (qm_y 137) (qm_b 137) (qm_ml 137) (qm_ret 137) ∈ qm_tbl := qm_tb_mem (p := 170) qm_tbm_3 rfl rfl
theorem qw_138 : Cond.code (qm_y 138) (qm_b 138) (qm_ml 138) (qm_ret 138) ∈ qm_tbl := qm_tb_mem (p := 138) qm_tbm_3 rfl rfl
theorem qw_139 : Cond.code (qm_y 139) (qm_b 139) (qm_ml 139) (qm_ret 139) ∈ qm_tbl := qm_tb_mem (p := 180) qm_tbm_3 rfl rfl
theorem qw_140 : Cond.code (qm_y 140) (qm_b 140) (qm_ml 140) (qm_ret 140) ∈ qm_tbl := qm_tb_mem (p := 183) qm_tbm_3 rfl rfl
theorem qw_141 : Cond.code (qm_y 141) (qm_b 141) (qm_ml 141) (qm_ret 141) ∈ qm_tbl := qm_tb_mem (p := 178) qm_tbm_4 rfl rfl
theorem qw_142 : Cond.code (qm_y 142) (qm_b 142) (qm_ml 142) (qm_ret 142) ∈ qm_tbl := qm_tb_mem (p := 9) qm_tbm_5 rfl rfl
theorem qw_143 : Cond.code (qm_y 143) (qm_b 143) (qm_ml 143) (qm_ret 143) ∈ qm_tbl := qm_tb_mem (p := 87) qm_tbm_4 rfl rfl
theorem qw_144 : Cond.code (qm_y 144) (qm_b 144) (qm_ml 144) (qm_ret 144) ∈ qm_tbl := qm_tb_mem (p := 91) qm_tbm_4 rfl rfl
theorem qw_145 : Cond.code (qm_y 145) (qm_b 145) (qm_ml 145) (qm_ret 145) ∈ qm_tbl := qm_tb_mem (p := 174) qm_tbm_4 rfl rfl
theorem qw_146 : Cond.code (qm_y 146) (qm_b 146) (qm_ml 146) (qm_ret 146) ∈ qm_tbl := qm_tb_mem (p := 182) qm_tbm_4 rfl rfl
theorem qw_147 : Cond.code (qm_y 147) (qm_b 147) (qm_ml 147) (qm_ret 147) ∈ qm_tbl := qm_tb_mem (p := 202) qm_tbm_4 rfl rfl
theorem qw_148 : Cond.code (qm_y 148) (qm_b 148) (qm_ml 148) (qm_ret 148) ∈ qm_tbl := qm_tb_mem (p := 194) qm_tbm_4 rfl rfl
theorem qw_149 : Cond.code (qm_y 149) (qm_b 149) (qm_ml 149) (qm_ret 149) ∈ qm_tbl := qm_tb_mem (p := 214) qm_tbm_4 rfl rfl
theorem qw_150 : Cond.code (qm_y 150) (qm_b 150) (qm_ml 150) (qm_ret 150) ∈ qm_tbl := qm_tb_mem (p := 218) qm_tbm_4 rfl rfl
theorem qw_151 : Cond.code (qm_y 151) (qm_b 151) (qm_ml 151) (qm_ret 151) ∈ qm_tbl := qm_tb_mem (p := 210) qm_tbm_4 rfl rfl
theorem qw_152 : Cond.code (qm_y 152) (qm_b 152) (qm_ml 152) (qm_ret 152) ∈ qm_tbl := qm_tb_mem (p := 190) qm_tbm_4 rfl rfl
theorem qw_153 : Cond.code (qm_y 153) (qm_b 153) (qm_ml 153) (qm_ret 153) ∈ qm_tbl := qm_tb_mem (p := 230) qm_tbm_4 rfl rfl
theorem qw_154 : Cond.code (qm_y 154) (qm_b 154) (qm_ml 154) (qm_ret 154) ∈ qm_tbl := qm_tb_mem (p := 226) qm_tbm_4 rfl rfl
theorem qw_155 : Cond.code (qm_y 155) (qm_b 155) (qm_ml 155) (qm_ret 155) ∈ qm_tbl := qm_tb_mem (p := 238) qm_tbm_4 rfl rfl
theorem qw_156 : Cond.code (qm_y 156) (qm_b 156) (qm_ml 156) (qm_ret 156) ∈ qm_tbl := qm_tb_mem (p := 234) qm_tbm_4 rfl rfl
theorem qw_157 : Cond.code (qm_y 157) (qm_b 157) (qm_ml 157) (qm_ret 157) ∈ qm_tbl := qm_tb_mem (p := 2) qm_tbm_5 rfl rfl
theorem qw_158 : Cond.code (qm_y 158) (qm_b 158) (qm_ml 158) (qm_ret 158) ∈ qm_tbl := qm_tb_mem (p := 222) qm_tbm_4 rfl rfl
theorem qw_159 : Cond.code (qm_y 159) (qm_b 159) (qm_ml 159) (qm_ret 159) ∈ qm_tbl := qm_tb_mem (p := 206) qm_tbm_4 rfl rfl
theorem qw_160 : Cond.code (qm_y 160) (qm_b 160) (qm_ml 160) (qm_ret 160) ∈ qm_tbl := qm_tb_mem (p := 12) qm_tbm_5 rfl rfl
theorem qw_161 : Cond.code (qm_y 161) (qm_b 161) (qm_ml 161) (qm_ret 161) ∈ qm_tbl := qm_tb_mem (p := 6) qm_tbm_5 rfl rfl
theorem qw_162 : Cond.code (qm_y 162) (qm_b 162) (qm_ml 162) (qm_ret 162) ∈ qm_tbl := qm_tb_mem (p := 186) qm_tbm_4 rfl rfl
theorem qw_163 : Cond.code (qm_y 163) (qm_b 163) (qm_ml 163) (qm_ret 163) ∈ qm_tbl := qm_tb_mem (p := 16) qm_tbm_5 rfl rfl
theorem qw_164 : Cond.code (qm_y 164) (qm_b 164) (qm_ml 164) (qm_ret 164) ∈ qm_tbl := qm_tb_mem (p := 48) qm_tbm_5 rfl rfl
theorem qw_165 : Cond.code (qm_y 165) (qm_b 165) (qm_ml 165) (qm_ret 165) ∈ qm_tbl := qm_tb_mem (p := 80) qm_tbm_5 rfl rfl
theorem qw_166 : Cond.code (qm_y 166) (qm_b 166) (qm_ml 166) (qm_ret 166) ∈ qm_tbl := qm_tb_mem (p := 100) qm_tbm_5 rfl rfl
theorem qw_167 : Cond.code (qm_y 167) (qm_b 167) (qm_ml 167) (qm_ret 167) ∈ qm_tbl := qm_tb_mem (p := 91) qm_tbm_5 rfl rfl
theorem qw_168 : Cond.code (qm_y 168) (qm_b 168) (qm_ml 168) (qm_ret 168) ∈ qm_tbl := qm_tb_mem (p := 83) qm_tbm_5 rfl rfl
theorem qw_169 : Cond.code (qm_y 169) (qm_b 169) (qm_ml 169) (qm_ret 169) ∈ qm_tbl := qm_tb_mem (p := 24) qm_tbm_5 rfl rfl
theorem qw_170 : Cond.code (qm_y 170) (qm_b 170) (qm_ml 170) (qm_ret 170) ∈ qm_tbl := qm_tb_mem (p := 118) qm_tbm_5 rfl rfl
theorem qw_171 : Cond.code (qm_y 171) (qm_b 171) (qm_ml 171) (qm_ret 171) ∈ qm_tbl := qm_tb_mem (p := 40) qm_tbm_5 rfl rfl
theorem qw_172 : Cond.code (qm_y 172) (qm_b 172) (qm_ml 172) (qm_ret 172) ∈ qm_tbl := qm_tb_mem (p := 64) qm_tbm_5 rfl rfl
theorem qw_173 : Cond.code (qm_y 173) (qm_b 173) (qm_ml 173) (qm_ret 173) ∈ qm_tbl := qm_tb_mem (p := 32) qm_tbm_5 rfl rfl
theorem qw_174 : Cond.code (qm_y 174) (qm_b 174) (qm_ml 174) (qm_ret 174) ∈ qm_tbl := qm_tb_mem (p := 36) qm_tbm_5 rfl rfl
theorem qw_175 : Cond.code (qm_y 175) (qm_b 175) (qm_ml 175) (qm_ret 175) ∈ qm_tbl := qm_tb_mem (p := 68) qm_tbm_5 rfl rfl
theorem qw_176 : Cond.code (qm_y 176) (qm_b 176) (qm_ml 176) (qm_ret 176) ∈ qm_tbl := qm_tb_mem (p := 28) qm_tbm_5 rfl rfl
theorem qw_177 : Cond.code (qm_y 177) (qm_b 177) (qm_ml 177) (qm_ret 177) ∈ qm_tbl := qm_tb_mem (p := 114) qm_tbm_5 rfl rfl
theorem qw_178 : Cond.code (qm_y 178) (qm_b 178) (qm_ml 178) (qm_ret 178) ∈ qm_tbl := qm_tb_mem (p := 60) qm_tbm_5 rfl rfl
theorem qw_179 : Cond.code (qm_y 179) (qm_b 179) (qm_ml 179) (qm_ret 179) ∈ qm_tbl := qm_tb_mem (p := 56) qm_tbm_5 rfl rfl
theorem qw_180 : Cond.code (qm_y 180) (qm_b 180) (qm_ml 180) (qm_ret 180) ∈ qm_tbl := qm_tb_mem (p := 52) qm_tbm_5 rfl rfl
theorem qw_181 : Cond.code (qm_y 181) (qm_b 181) (qm_ml 181) (qm_ret 181) ∈ qm_tbl := qm_tb_mem (p := 147) qm_tbm_5 rfl rfl
theorem qw_182 : Cond.code (qm_y 182) (qm_b 182) (qm_ml 182) (qm_ret 182) ∈ qm_tbl := qm_tb_mem (p := 72) qm_tbm_5 rfl rfl
theorem qw_183 : Cond.code (qm_y 183) (qm_b 183) (qm_ml 183) (qm_ret 183) ∈ qm_tbl := qm_tb_mem (p := 156) qm_tbm_5 rfl rfl
theorem qw_184 : Cond.code (qm_y 184) (qm_b 184) (qm_ml 184) (qm_ret 184) ∈ qm_tbl := qm_tb_mem (p := 20) qm_tbm_5 rfl rfl
theorem qw_185 : Cond.code (qm_y 185) (qm_b 185) (qm_ml 185) (qm_ret 185) ∈ qm_tbl := qm_tb_mem (p := 44) qm_tbm_5 rfl rfl
theorem qw_186 : Cond.code (qm_y 186) (qm_b 186) (qm_ml 186) (qm_ret 186) ∈ qm_tbl := qm_tb_mem (p := 76) qm_tbm_5 rfl rfl
theorem qw_187 : Cond.code (qm_y 187) (qm_b 187) (qm_ml 187) (qm_ret 187) ∈ qm_tbl := qm_tb_mem (p := 87) qm_tbm_5 rfl rfl
theorem qw_188 : Cond.code (qm_y 188) (qm_b 188) (qm_ml 188) (qm_ret 188) ∈ qm_tbl := qm_tb_mem (p := 106) qm_tbm_5 rfl rfl
theorem qw_189 : Cond.code (qm_y 189) (qm_b 189) (qm_ml 189) (qm_ret 189) ∈ qm_tbl := qm_tb_mem (p := 96) qm_tbm_5 rfl rfl
theorem qw_190 : Cond.code (qm_y 190) (qm_b 190) (qm_ml 190) (qm_ret 190) ∈ qm_tbl := qm_tb_mem (p := 110) qm_tbm_5 rfl rfl
theorem qw_191 : Cond.code (qm_y 191) (qm_b 191) (qm_ml 191) (qm_ret 191) ∈ qm_tbl := qm_tb_mem (p := 122) qm_tbm_5 rfl rfl
theorem qw_192 : Cond.code (qm_y 192) (qm_b 192) (qm_ml 192) (qm_ret 192) ∈ qm_tbl := qm_tb_mem (p := 130) qm_tbm_5 rfl rfl
theorem qw_193 : Cond.code (qm_y 193) (qm_b 193) (qm_ml 193) (qm_ret 193) ∈ qm_tbl := qm_tb_mem (p := 126) qm_tbm_5 rfl rfl
theorem qw_194 : Cond.code (qm_y 194) (qm_b 194) (qm_ml 194) (qm_ret 194) ∈ qm_tbl := qm_tb_mem (p := 134) qm_tbm_5 rfl rfl
theorem qw_195 : Cond.code (qm_y 195) (qm_b 195) (qm_ml 195) (qm_ret 195) ∈ qm_tbl := qm_tb_mem (p := 138) qm_tbm_5 rfl rfl
theorem qw_196 : Cond.code (qm_y 196) (qm_b 196) (qm_ml 196) (qm_ret 196) ∈ qm_tbl := qm_tb_mem (p := 143) qm_tbm_5 rfl rfl
theorem qw_197 : Cond.code (qm_y 197) (qm_b 197) (qm_ml 197) (qm_ret 197) ∈ qm_tbl := qm_tb_mem (p := 151) qm_tbm_5 rfl rfl
theorem qw_198 : Cond.code (qm_y 198) (qm_b 198) (qm_ml 198) (qm_ret 198) ∈ qm_tbl := qm_tb_mem (p := 176) qm_tbm_5 rfl rfl
theorem qw_199 : Cond.code (qm_y 199) (qm_b 199) (qm_ml 199) (qm_ret 199) ∈ qm_tbl := qm_tb_mem (p := 180) qm_tbm_5 rfl rfl
theorem qw_200 : Cond.code (qm_y 200) (qm_b 200) (qm_ml 200) (qm_ret 200) ∈ qm_tbl := qm_tb_mem (p := 172) qm_tbm_5 rfl rfl
theorem qw_201 : Cond.code (qm_y 201) (qm_b 201) (qm_ml 201) (qm_ret 201) ∈ qm_tbl := qm_tb_mem (p := 169) qm_tbm_5 rfl rfl
theorem qw_202 : Cond.code (qm_y 202) (qm_b 202) (qm_ml 202) (qm_ret 202) ∈ qm_tbl := qm_tb_mem (p := 165) qm_tbm_5 rfl rfl
theorem qw_203 : Cond.code (qm_y 203) (qm_b 203) (qm_ml 203) (qm_ret 203) ∈ qm_tbl := qm_tb_mem (p := 160) qm_tbm_5 rfl rfl
theorem qw_204 : Cond.code (qm_y 204) (qm_b 204) (qm_ml 204) (qm_ret 204) ∈ qm_tbl := qm_tb_mem (p := 189) qm_tbm_5 rfl rfl
theorem qw_205 : Cond.code (qm_y 205) (qm_b 205) (qm_ml 205) (qm_ret 205) ∈ qm_tbl := qm_tb_mem (p := 185) qm_tbm_5 rfl rfl
theorem qw_206 : Cond.code (qm_y 206) (qm_b 206) (qm_ml 206) (qm_ret 206) ∈ qm_tbl := qm_tb_mem (p := 193) qm_tbm_5 rfl rfl
theorem qw_207 : Cond.code (qm_y 207) (qm_b 207) (qm_ml 207) (qm_ret 207) ∈ qm_tbl := qm_tb_mem (p := 204) qm_tbm_5 rfl rfl
theorem qw_208 : Cond.code (qm_y 208) (qm_b 208) (qm_ml 208) (qm_ret 208) ∈ qm_tbl := qm_tb_mem (p := 201) qm_tbm_5 rfl rfl
theorem qw_209 : Cond.code (qm_y 209) (qm_b 209) (qm_ml 209) (qm_ret 209) ∈ qm_tbl := qm_tb_mem (p := 197) qm_tbm_5 rfl rfl
theorem qw_210 : Cond.code (qm_y 210) (qm_b 210) (qm_ml 210) (qm_ret 210) ∈ qm_tbl := qm_tb_mem (p := 208) qm_tbm_5 rfl rfl
theorem qw_211 : Cond.code (qm_y 211) (qm_b 211) (qm_ml 211) (qm_ret 211) ∈ qm_tbl := qm_tb_mem (p := 212) qm_tbm_5 rfl rfl
theorem qw_212 : Cond.code (qm_y 212) (qm_b 212) (qm_ml 212) (qm_ret 212) ∈ qm_tbl := qm_tb_mem (p := 228) qm_tbm_5 rfl rfl
theorem qw_213 : Cond.code (qm_y 213) (qm_b 213) (qm_ml 213) (qm_ret 213) ∈ qm_tbl := qm_tb_mem (p := 224) qm_tbm_5 rfl rfl
theorem qw_214 : Cond.code (qm_y 214) (qm_b 214) (qm_ml 214) (qm_ret 214) ∈ qm_tbl := qm_tb_mem (p := 220) qm_tbm_5 rfl rfl
theorem qw_215 : Cond.code (qm_y 215) (qm_b 215) (qm_ml 215) (qm_ret 215) ∈ qm_tbl := qm_tb_mem (p := 216) qm_tbm_5 rfl rfl
theorem qw_216 : Cond.code (qm_y 216) (qm_b 216) (qm_ml 216) (qm_ret 216) ∈ qm_tbl := qm_tb_mem (p := 232) qm_tbm_5 rfl rfl
theorem qw_217 : Cond.code (qm_y 217) (qm_b 217) (qm_ml 217) (qm_ret 217) ∈ qm_tbl := qm_tb_mem (p := 236) qm_tbm_5 rfl rfl
theorem qw_218 : Cond.code (qm_y 218) (qm_b 218) (qm_ml 218) (qm_ret 218) ∈ qm_tbl := qm_tb_mem (p := 0) qm_tbm_6 rfl rfl
theorem qw_219 : Cond.code (qm_y 219) (qm_b 219) (qm_ml 219) (qm_ret 219) ∈ qm_tbl := qm_tb_mem (p := 16) qm_tbm_6 rfl rfl
theorem qw_220 : Cond.code (qm_y 220) (qm_b 220) (qm_ml 220) (qm_ret 220) ∈ qm_tbl := qm_tb_mem (p := 13) qm_tbm_6 rfl rfl
theorem qw_221 : Cond.code (qm_y 221) (qm_b 221) (qm_ml 221) (qm_ret 221) ∈ qm_tbl := qm_tb_mem (p := 9) qm_tbm_6 rfl rfl
theorem qw_222 : Cond.code (qm_y 222) (qm_b 222) (qm_ml 222) (qm_ret 222) ∈ qm_tbl := qm_tb_mem (p := 4) qm_tbm_6 rfl rfl
theorem qw_223 : Cond.code (qm_y 223) (qm_b 223) (qm_ml 223) (qm_ret 223) ∈ qm_tbl := qm_tb_mem (p := 20) qm_tbm_6 rfl rfl
theorem qw_224 : Cond.code (qm_y 224) (qm_b 224) (qm_ml 224) (qm_ret 224) ∈ qm_tbl := qm_tb_mem (p := 24) qm_tbm_6 rfl rfl
theorem qw_225 : Cond.code (qm_y 225) (qm_b 225) (qm_ml 225) (qm_ret 225) ∈ qm_tbl := qm_tb_mem (p := 28) qm_tbm_6 rfl rfl
theorem qw_226 : Cond.code (qm_y 226) (qm_b 226) (qm_ml 226) (qm_ret 226) ∈ qm_tbl := qm_tb_mem (p := 32) qm_tbm_6 rfl rfl
theorem qw_227 : Cond.code (qm_y 227) (qm_b 227) (qm_ml 227) (qm_ret 227) ∈ qm_tbl := qm_tb_mem (p := 41) qm_tbm_6 rfl rfl
theorem qw_228 : Cond.code (qm_y 228) (qm_b 228) (qm_ml 228) (qm_ret 228) ∈ qm_tbl := qm_tb_mem (p := 36) qm_tbm_6 rfl rfl
theorem qw_229 : Cond.code (qm_y 229) (qm_b 229) (qm_ml 229) (qm_ret 229) ∈ qm_tbl := qm_tb_mem (p := 45) qm_tbm_6 rfl rfl
theorem qw_230 : Cond.code (qm_y 230) (qm_b 230) (qm_ml 230) (qm_ret 230) ∈ qm_tbl := qm_tb_mem (p := 54) qm_tbm_6 rfl rfl
theorem qw_231 : Cond.code (qm_y 231) (qm_b 231) (qm_ml 231) (qm_ret 231) ∈ qm_tbl := qm_tb_mem (p := 50) qm_tbm_6 rfl rfl
theorem qw_232 : Cond.code (qm_y 232) (qm_b 232) (qm_ml 232) (qm_ret 232) ∈ qm_tbl := qm_tb_mem (p := 58) qm_tbm_6 rfl rfl
theorem qw_233 : Cond.code (qm_y 233) (qm_b 233) (qm_ml 233) (qm_ret 233) ∈ qm_tbl := qm_tb_mem (p := 65) qm_tbm_6 rfl rfl
theorem qw_234 : Cond.code (qm_y 234) (qm_b 234) (qm_ml 234) (qm_ret 234) ∈ qm_tbl := qm_tb_mem (p := 62) qm_tbm_6 rfl rfl
theorem qw_235 : Cond.code (qm_y 235) (qm_b 235) (qm_ml 235) (qm_ret 235) ∈ qm_tbl := qm_tb_mem (p := 69) qm_tbm_6 rfl rfl
theorem qw_236 : Cond.code (qm_y 236) (qm_b 236) (qm_ml 236) (qm_ret 236) ∈ qm_tbl := qm_tb_mem (p := 73) qm_tbm_6 rfl rfl
theorem qw_237 : Cond.code (qm_y 237) (qm_b 237) (qm_ml 237) (qm_ret 237) ∈ qm_tbl := qm_tb_mem (p := 78) qm_tbm_6 rfl rfl
theorem qw_238 : Cond.code (qm_y 238) (qm_b 238) (qm_ml 238) (qm_ret 238) ∈ qm_tbl := qm_tb_mem (p := 82) qm_tbm_6 rfl rfl
theorem qm_cw (m : Nat) (hm : m < qm_law) : Cond.code (qm_y m) (qm_b m) (qm_ml m) (qm_ret m) ∈ qm_tbl := by
  have hm : m < 239 := hm
  by_cases h0 : m < 20
  · have hd : m = 0 ∨ m = 1 ∨ m = 2 ∨ m = 3 ∨ m = 4 ∨ m = 5 ∨ m = 6 ∨ m = 7 ∨ m = 8 ∨ m = 9 ∨ m = 10 ∨ m = 11 ∨ m = 12 ∨ m = 13 ∨ m = 14 ∨ m = 15 ∨ m = 16 ∨ m = 17 ∨ m = 18 ∨ m = 19 := by omega
    rcases hd with rfl | rfl | rfl | rfl | rfl | rfl | rfl | rfl | rfl | rfl | rfl | rfl | rfl | rfl | rfl | rfl | rfl | rfl | rfl | rfl
    · exact qw_0
    · exact qw_1
    · exact qw_2
    · exact qw_3
    · exact qw_4
    · exact qw_5
    · exact qw_6
    · exact qw_7
    · exact qw_8
    · exact qw_9
    · exact qw_10
    · exact qw_11
    · exact qw_12
    · exact qw_13
    · exact qw_14
    · exact qw_15
    · exact qw_16
    · exact qw_17
    · exact qw_18
    · exact qw_19
  by_cases h20 : m < 40
  · have hd : m = 20 ∨ m = 21 ∨ m = 22 ∨ m = 23 ∨ m = 24 ∨ m = 25 ∨ m = 26 ∨ m = 27 ∨ m = 28 ∨ m = 29 ∨ m = 30 ∨ m = 31 ∨ m = 32 ∨ m = 33 ∨ m = 34 ∨ m = 35 ∨ m = 36 ∨ m = 37 ∨ m = 38 ∨ m = 39 := by omega
    rcases hd with rfl | rfl | rfl | rfl | rfl | rfl | rfl | rfl | rfl | rfl | rfl | rfl | rfl | rfl | rfl | rfl | rfl | rfl | rfl | rfl
    · exact qw_20
    · exact qw_21
    · exact qw_22
    · exact qw_23
    · exact qw_24
    · exact qw_25
    · exact qw_26
    · exact qw_27
    · exact qw_28
    · exact qw_29
    · exact qw_30
    · exact qw_31
    · exact qw_32
    · exact qw_33
    · exact qw_34
    · exact qw_35
    · exact qw_36
    · exact qw_37
    · exact qw_38
    · exact qw_39
  by_cases h40 : m < 60
  · have hd : m = 40 ∨ m = 41 ∨ m = 42 ∨ m = 43 ∨ m = 44 ∨ m = 45 ∨ m = 46 ∨ m = 47 ∨ m = 48 ∨ m = 49 ∨ m = 50 ∨ m = 51 ∨ m = 52 ∨ m = 53 ∨ m = 54 ∨ m = 55 ∨ m = 56 ∨ m = 57 ∨ m = 58 ∨ m = 59 := by omega
    rcases hd with rfl | rfl | rfl | rfl | rfl | rfl | rfl | rfl | rfl | rfl | rfl | rfl | rfl | rfl | rfl | rfl | rfl | rfl | rfl | rfl
    · exact qw_40
    · exact qw_41
    · exact qw_42
    · exact qw_43
    · exact qw_44
    · exact qw_45
    · exact qw_46
    · exact qw_47
    · exact qw_48
    · exact qw_49
    · exact qw_50
    · exact qw_51
    · exact qw_52
    · exact qw_53
    · exact qw_54
    · exact qw_55
    · exact qw_56
    · exact qw_57
    · exact qw_58
    · exact qw_59
  by_cases h60 : m < 80
  · have hd : m = 60 ∨ m = 61 ∨ m = 62 ∨ m = 63 ∨ m = 64 ∨ m = 65 ∨ m = 66 ∨ m = 67 ∨ m = 68 ∨ m = 69 ∨ m = 70 ∨ m = 71 ∨ m = 72 ∨ m = 73 ∨ m = 74 ∨ m = 75 ∨ m = 76 ∨ m = 77 ∨ m = 78 ∨ m = 79 := by omega
    rcases hd with rfl | rfl | rfl | rfl | rfl | rfl | rfl | rfl | rfl | rfl | rfl | rfl | rfl | rfl | rfl | rfl | rfl | rfl | rfl | rfl
    · exact qw_60
    · exact qw_61
    · exact qw_62
    · exact qw_63
    · exact qw_64
    · exact qw_65
    · exact qw_66
    · exact qw_67
    · exact qw_68
    · exact qw_69
    · exact qw_70
    · exact qw_71
    · exact qw_72
    · exact qw_73
    · exact qw_74
    · exact qw_75
    · exact qw_76
    · exact qw_77
    · exact qw_78
    · exact qw_79
  by_cases h80 : m < 100
  · have hd : m = 80 ∨ m = 81 ∨ m = 82 ∨ m = 83 ∨ m = 84 ∨ m = 85 ∨ m = 86 ∨ m = 87 ∨ m = 88 ∨ m = 89 ∨ m = 90 ∨ m = 91 ∨ m = 92 ∨ m = 93 ∨ m = 94 ∨ m = 95 ∨ m = 96 ∨ m = 97 ∨ m = 98 ∨ m = 99 := by omega
    rcases hd with rfl | rfl | rfl | rfl | rfl | rfl | rfl | rfl | rfl | rfl | rfl | rfl | rfl | rfl | rfl | rfl | rfl | rfl | rfl | rfl
    · exact qw_80
    · exact qw_81
    · exact qw_82
    · exact qw_83
    · exact qw_84
    · exact qw_85
    · exact qw_86
    · exact qw_87
    · exact qw_88
    · exact qw_89
    · exact qw_90
    · exact qw_91
    · exact qw_92
    · exact qw_93
    · exact qw_94
    · exact qw_95
    · exact qw_96
    · exact qw_97
    · exact qw_98
    · exact qw_99
  by_cases h100 : m < 120
  · have hd : m = 100 ∨ m = 101 ∨ m = 102 ∨ m = 103 ∨ m = 104 ∨ m = 105 ∨ m = 106 ∨ m = 107 ∨ m = 108 ∨ m = 109 ∨ m = 110 ∨ m = 111 ∨ m = 112 ∨ m = 113 ∨ m = 114 ∨ m = 115 ∨ m = 116 ∨ m = 117 ∨ m = 118 ∨ m = 119 := by omega
    rcases hd with rfl | rfl | rfl | rfl | rfl | rfl | rfl | rfl | rfl | rfl | rfl | rfl | rfl | rfl | rfl | rfl | rfl | rfl | rfl | rfl
    · exact qw_100
    · exact qw_101
    · exact qw_102
    · exact qw_103
    · exact qw_104
    · exact qw_105
    · exact qw_106
    · exact qw_107
    · exact qw_108
    · exact qw_109
    · exact qw_110
    · exact qw_111
    · exact qw_112
    · exact qw_113
    · exact qw_114
    · exact qw_115
    · exact qw_116
    · exact qw_117
    · exact qw_118
    · exact qw_119
  by_cases h120 : m < 140
  · have hd : m = 120 ∨ m = 121 ∨ m = 122 ∨ m = 123 ∨ m = 124 ∨ m = 125 ∨ m = 126 ∨ m = 127 ∨ m = 128 ∨ m = 129 ∨ m = 130 ∨ m = 131 ∨ m = 132 ∨ m = 133 ∨ m = 134 ∨ m = 135 ∨ m = 136 ∨ m = 137 ∨ m = 138 ∨ m = 139 := by omega
    rcases hd with rfl | rfl | rfl | rfl | rfl | rfl | rfl | rfl | rfl | rfl | rfl | rfl | rfl | rfl | rfl | rfl | rfl | rfl | rfl | rfl
    · exact qw_120
    · exact qw_121
    · exact qw_122
    · exact qw_123
    · exact qw_124
    · exact qw_125
    · exact qw_126
    · exact qw_127
    · exact qw_128
    · exact qw_129
    · exact qw_130
    · exact qw_131
    · exact qw_132
    · exact qw_133
    · exact qw_134
    · exact qw_135
    · exact qw_136
    · exact qw_137
    · exact qw_138
    · exact qw_139
  by_cases h140 : m < 160
  · have hd : m = 140 ∨ m = 141 ∨ m = 142 ∨ m = 143 ∨ m = 144 ∨ m = 145 ∨ m = 146 ∨ m = 147 ∨ m = 148 ∨ m = 149 ∨ m = 150 ∨ m = 151 ∨ m = 152 ∨ m = 153 ∨ m = 154 ∨ m = 155 ∨ m = 156 ∨ m = 157 ∨ m = 158 ∨ m = 159 := by omega
    rcases hd with rfl | rfl | rfl | rfl | rfl | rfl | rfl | rfl | rfl | rfl | rfl | rfl | rfl | rfl | rfl | rfl | rfl | rfl | rfl | rfl
    · exact qw_140
    · exact qw_141
    · exact qw_142
    · exact qw_143
    · exact qw_144
    · exact qw_145
    · exact qw_146
    · exact qw_147
    · exact qw_148
    · exact qw_149
    · exact qw_150
    · exact qw_151
    · exact qw_152
    · exact qw_153
    · exact qw_154
    · exact qw_155
    · exact qw_156
    · exact qw_157
    · exact qw_158
    · exact qw_159
  by_cases h160 : m < 180
  · have hd : m = 160 ∨ m = 161 ∨ m = 162 ∨ m = 163 ∨ m = 164 ∨ m = 165 ∨ m = 166 ∨ m = 167 ∨ m = 168 ∨ m = 169 ∨ m = 170 ∨ m = 171 ∨ m = 172 ∨ m = 173 ∨ m = 174 ∨ m = 175 ∨ m = 176 ∨ m = 177 ∨ m = 178 ∨ m = 179 := by omega
    rcases hd with rfl | rfl | rfl | rfl | rfl | rfl | rfl | rfl | rfl | rfl | rfl | rfl | rfl | rfl | rfl | rfl | rfl | rfl | rfl | rfl
    · exact qw_160
    · exact qw_161
    · exact qw_162
    · exact qw_163
    · exact qw_164
    · exact qw_165
    · exact qw_166
    · exact qw_167
    · exact qw_168
    · exact qw_169
    · exact qw_170
    · exact qw_171
    · exact qw_172
    · exact qw_173
    · exact qw_174
    · exact qw_175
    · exact qw_176
    · exact qw_177
    · exact qw_178
    · exact qw_179
  by_cases h180 : m < 200
  · have hd : m = 180 ∨ m = 181 ∨ m = 182 ∨ m = 183 ∨ m = 184 ∨ m = 185 ∨ m = 186 ∨ m = 187 ∨ m = 188 ∨ m = 189 ∨ m = 190 ∨ m = 191 ∨ m = 192 ∨ m = 193 ∨ m = 194 ∨ m = 195 ∨ m = 196 ∨ m = 197 ∨ m = 198 ∨ m = 199 := by omega
    rcases hd with rfl | rfl | rfl | rfl | rfl | rfl | rfl | rfl | rfl | rfl | rfl | rfl | rfl | rfl | rfl | rfl | rfl | rfl | rfl | rfl
    · exact qw_180
    · exact qw_181
    · exact qw_182
    · exact qw_183
    · exact qw_184
    · exact qw_185
    · exact qw_186
    · exact qw_187
    · exact qw_188
    · exact qw_189
    · exact qw_190
    · exact qw_191
    · exact qw_192
    · exact qw_193
    · exact qw_194
    · exact qw_195
    · exact qw_196
    · exact qw_197
    · exact qw_198
    · exact qw_199
  by_cases h200 : m < 220
  · have hd : m = 200 ∨ m = 201 ∨ m = 202 ∨ m = 203 ∨ m = 204 ∨ m = 205 ∨ m = 206 ∨ m = 207 ∨ m = 208 ∨ m = 209 ∨ m = 210 ∨ m = 211 ∨ m = 212 ∨ m = 213 ∨ m = 214 ∨ m = 215 ∨ m = 216 ∨ m = 217 ∨ m = 218 ∨ m = 219 := by omega
    rcases hd with rfl | rfl | rfl | rfl | rfl | rfl | rfl | rfl | rfl | rfl | rfl | rfl | rfl | rfl | rfl | rfl | rfl | rfl | rfl | rfl
    · exact qw_200
    · exact qw_201
    · exact qw_202
    · exact qw_203
    · exact qw_204
    · exact qw_205
    · exact qw_206
    · exact qw_207
    · exact qw_208
    · exact qw_209
    · exact qw_210
    · exact qw_211
    · exact qw_212
    · exact qw_213
    · exact qw_214
    · exact qw_215
    · exact qw_216
    · exact qw_217
    · exact qw_218
    · exact qw_219
  by_cases h220 : m < 239
  · have hd : m = 220 ∨ m = 221 ∨ m = 222 ∨ m = 223 ∨ m = 224 ∨ m = 225 ∨ m = 226 ∨ m = 227 ∨ m = 228 ∨ m = 229 ∨ m = 230 ∨ m = 231 ∨ m = 232 ∨ m = 233 ∨ m = 234 ∨ m = 235 ∨ m = 236 ∨ m = 237 ∨ m = 238 := by omega
    rcases hd with rfl | rfl | rfl | rfl | rfl | rfl | rfl | rfl | rfl | rfl | rfl | rfl | rfl | rfl | rfl | rfl | rfl | rfl | rfl
    · exact qw_220
    · exact qw_221
    · exact qw_222
    · exact qw_223
    · exact qw_224
    · exact qw_225
    · exact qw_226
    · exact qw_227
    · exact qw_228
    · exact qw_229
    · exact qw_230
    · exact qw_231
    · exact qw_232
    · exact qw_233
    · exact qw_234
    · exact qw_235
    · exact qw_236
    · exact qw_237
    · exact qw_238
  exact absurd hm (by omega)
end
section
/-! ===== the pure machine's formula holds: the machine itself comes to the end that it tells ===== -/
theorem qm_find_mem {l : List qm_E} {pc : Nat} {I : qm_I} (h : qm_find l pc = some I) : ∃ j p, (pc, I, j, p) ∈ l := by
  induction l with
  | nil => cases h
  | cons e t ih =>
    obtain ⟨k, J, j, p⟩ := e
    unfold qm_find at h
    split at h
    · rename_i hk
      cases h
      exact ⟨j, p, by rw [hk]; exact List.mem_cons_self⟩
    · obtain ⟨j', p', h'⟩ := ih h
      exact ⟨j', p', List.mem_cons_of_mem _ h'⟩
theorem qm_at_ok {m pc : Nat} {i : Instr} {nx a b : Nat} {v : Value} {ts : List (Int32 × Nat)} (hm : m < qm_n) (h : qm_at m pc = some (i, nx, a, b, v, ts)) : decode (qm_b m) pc = .ok (i, qm_dl i pc nx) ∧ qm_nl i pc nx = true ∧ ∃ j p, qm_ck m pc i nx a b v ts j p = true := by
  obtain ⟨j, p, hmem⟩ := qm_find_mem h
  have h1 := List.all_eq_true.mp (qm_valid m hm) _ hmem
  unfold qm_ok at h1
  simp only [Bool.and_eq_true, decide_eq_true_eq] at h1
  exact ⟨h1.1.1, h1.1.2, j, p, h1.2⟩
abbrev qm_AD : Type := (Nat → Nat) × Value
def qm_cv (ad : qm_AD) : Value → Value
  | .ref r => if r = 140 then ad.2 else .ref (ad.1 r)
  | v => v
def qm_lc (ad : qm_AD) (q : Nat × Value) : Nat × Value := (q.1, qm_cv ad q.2)
def qm_fv (ad : qm_AD) (h : qm_H) (r k : Nat) (o : Option Nat) : Value := match o with
  | some t => qm_cv ad (.ref t)
  | none => .int (h r k)
def qm_fs (ad : qm_AD) (h : qm_H) (r : Nat) (rs : List (Option Nat)) : List Value := rs.mapIdx (qm_fv ad h r)
def qm_ce (ad : qm_AD) (ca : Nat → ClassId) (h : qm_H) (r : Nat) (c : qm_T) : va_E := match c with
  | .inl (t, n) => .inl (ca t, n, .inl (h r))
  | .inr (ci, rs) => .inr (ci, qm_fs ad h r rs)
def qm_w (ad : qm_AD) (ca : Nat → ClassId) (h : qm_H) : va_W := qm_sh.mapIdx (fun r c => (ad.1 r, qm_ce ad ca h r c))
theorem qm_sh_lt {r : Nat} {c : qm_T} (h : qm_sh[r]? = some c) : r < 51 := (List.getElem?_eq_some_iff.mp h).1
theorem qm_cv_ref {ad : qm_AD} {r : Nat} (h : r ≠ 140) : qm_cv ad (.ref r) = .ref (ad.1 r) := by simp [qm_cv, h]
theorem qm_cv_cat {ad : qm_AD} (hz : ad.2.category = 1) (v : Value) : (qm_cv ad v).category = v.category := by
  cases v <;> try rfl
  rename_i r
  show (if r = 140 then ad.2 else Value.ref (ad.1 r)).category = 1
  split
  · exact hz
  · rfl
theorem qm_w_at {ad : qm_AD} {ca : Nat → ClassId} {h0 : qm_H} {r : Nat} {c : qm_T} (h : qm_sh[r]? = some c) : (qm_w ad ca h0)[r]? = some (ad.1 r, qm_ce ad ca h0 r c) := by
  unfold qm_w
  rw [List.getElem?_mapIdx, h]
  rfl
theorem qm_w_arr {ad : qm_AD} {ca : Nat → ClassId} {h0 : qm_H} {r t n : Nat} {f : Nat → Int32} (h : qm_sh[r]? = some (.inl (t, n))) : (qm_w ad ca h0).set r (ad.1 r, .inl (ca t, n, .inl f)) = qm_w ad ca (qm_row h0 r f) := by
  have hl := (List.getElem?_eq_some_iff.mp h).1
  apply List.ext_getElem?
  intro k
  by_cases hk : k = r
  · subst hk
    rw [List.getElem?_set_self (by unfold qm_w; rw [List.length_mapIdx]; exact hl), qm_w_at h]
    simp [qm_ce, qm_row]
  · rw [List.getElem?_set_ne (Ne.symm hk)]
    unfold qm_w
    rw [List.getElem?_mapIdx, List.getElem?_mapIdx]
    cases hc : qm_sh[k]? with
    | none => rfl
    | some c =>
      simp only [Option.map_some]
      have e : qm_ce ad ca (qm_row h0 r f) k c = qm_ce ad ca h0 k c := by
        cases c with
        | inl q => simp [qm_ce, qm_row, hk]
        | inr q =>
          have e2 : qm_fv ad (qm_row h0 r f) k = qm_fv ad h0 k := by
            funext i o
            cases o <;> simp [qm_fv, qm_row, hk]
          simp [qm_ce, qm_fs, e2]
      rw [e]
theorem qm_fs_at {ad : qm_AD} {h0 : qm_H} {r k : Nat} {rs : List (Option Nat)} {o : Option Nat} (h : rs[k]? = some o) : (qm_fs ad h0 r rs)[k]? = some (qm_fv ad h0 r k o) := by
  unfold qm_fs
  rw [List.getElem?_mapIdx, h]
  rfl
theorem qm_w_fld {ad : qm_AD} {ca : Nat → ClassId} {h0 : qm_H} {r ci k : Nat} {rs : List (Option Nat)} {x : Int32} (h : qm_sh[r]? = some (.inr (ci, rs))) (hk0 : rs[k]? = some none) : (qm_w ad ca h0).set r (ad.1 r, .inr (ci, (qm_fs ad h0 r rs).set k (.int x))) = qm_w ad ca (qm_row h0 r (upd (h0 r) k x)) := by
  have hl := (List.getElem?_eq_some_iff.mp h).1
  have hlk := (List.getElem?_eq_some_iff.mp hk0).1
  apply List.ext_getElem?
  intro j
  by_cases hj : j = r
  · subst hj
    rw [List.getElem?_set_self (by unfold qm_w; rw [List.length_mapIdx]; exact hl), qm_w_at h]
    have e : (qm_fs ad h0 j rs).set k (.int x) = qm_fs ad (qm_row h0 j (upd (h0 j) k x)) j rs := by
      apply List.ext_getElem?
      intro i
      by_cases hi : i = k
      · subst hi
        rw [List.getElem?_set_self (by unfold qm_fs; rw [List.length_mapIdx]; exact hlk), qm_fs_at hk0]
        simp [qm_fv, qm_row, upd]
      · rw [List.getElem?_set_ne (Ne.symm hi)]
        unfold qm_fs
        rw [List.getElem?_mapIdx, List.getElem?_mapIdx]
        cases hc : rs[i]? with
        | none => rfl
        | some o =>
          simp only [Option.map_some]
          cases o with
          | some t => rfl
          | none => simp [qm_fv, qm_row, upd, hi]
    rw [e]
    rfl
  · rw [List.getElem?_set_ne (Ne.symm hj)]
    unfold qm_w
    rw [List.getElem?_mapIdx, List.getElem?_mapIdx]
    cases hc : qm_sh[j]? with
    | none => rfl
    | some c =>
      simp only [Option.map_some]
      have e : qm_ce ad ca (qm_row h0 r (upd (h0 r) k x)) j c = qm_ce ad ca h0 j c := by
        cases c with
        | inl q => simp [qm_ce, qm_row, hj]
        | inr q =>
          have e2 : qm_fv ad (qm_row h0 r (upd (h0 r) k x)) j = qm_fv ad h0 j := by
            funext i o
            cases o <;> simp [qm_fv, qm_row, hj]
          simp [qm_ce, qm_fs, e2]
      rw [e]
/-- addresses alone say that cells are apart -/
theorem qm_w_D {ad : qm_AD} {ca : Nat → ClassId} {h0 h1 : qm_H} {A : Nat → Prop} (h : va_D A (qm_w ad ca h0)) : va_D A (qm_w ad ca h1) := by
  have key : ∀ (k : Nat) (q : Nat × va_E), (qm_w ad ca h1)[k]? = some q → ∃ q0, (qm_w ad ca h0)[k]? = some q0 ∧ q0.1 = q.1 := by
    intro k q hq
    unfold qm_w at hq ⊢
    rw [List.getElem?_mapIdx] at hq ⊢
    cases hc : qm_sh[k]? with
    | none => rw [hc] at hq; cases hq
    | some c => rw [hc] at hq; cases hq; exact ⟨_, rfl, rfl⟩
  refine ⟨fun i j x y hi hj hxy => ?_, fun k q hk => ?_⟩
  · obtain ⟨x0, a1, a2⟩ := key i x hi
    obtain ⟨y0, b1, b2⟩ := key j y hj
    exact h.1 i j x0 y0 a1 b1 (a2.trans (hxy.trans b2.symm))
  · obtain ⟨q0, a1, a2⟩ := key k q hk
    rw [← a2]
    exact h.2 k q0 a1
theorem qm_w_A {ad : qm_AD} {ca : Nat → ClassId} {h0 h1 : qm_H} {sz : Nat} : ∀ q, va_A (qm_w ad ca h0) sz q → va_A (qm_w ad ca h1) sz q := by
  intro q hq
  rcases hq with ⟨k, e, h⟩ | h
  · unfold qm_w at h
    rw [List.getElem?_mapIdx] at h
    cases hc : qm_sh[k]? with
    | none => rw [hc] at h; cases h
    | some c =>
      rw [hc] at h
      cases h
      exact Or.inl ⟨k, _, qm_w_at hc⟩
  · exact Or.inr h
/-- what the machine's state holds beside the cells: classes, the arrays and words that nobody writes -/
def qm_Env (X : qm_X) (D : va_G) (ca : Nat → ClassId) (ad : qm_AD) (A : Nat → Prop) (U : State) : Prop :=
  (va_K D vwCl [(ca 0, .int), (ca 1, .byte), (ca 2, .boolean)] U ∧ ad.2.category = 1) ∧
  (va_Z "ThreadBank" "ROOMS" "[I" (.ref (ad.1 100)) A U U.heap ∧ va_Z "ThreadBank$Clearing" "RINGS" "[I" (.ref (ad.1 101)) A U U.heap ∧ va_Z "java/lang/String" "COMPACT_STRINGS" "Z" (.int 1) A U U.heap ∧ va_Z "jdk/internal/util/Preconditions" "SIOOBE_FORMATTER" "Ljava/util/function/BiFunction;" ad.2 A U U.heap) ∧
  (va_T .int (ad.1 100) 20 (fun j => .int (qm_rooms.getD j 0)) A U U.heap ∧ va_T .int (ad.1 101) 100 (fun j => .int (qm_rings.getD j 0)) A U U.heap ∧ va_T .int (ad.1 130) X.1 (fun j => .int (X.2 j)) A U U.heap) ∧
  (vk_S 6 qm_slen qm_sbyt (fun i => ad.1 (110 + i)) (fun i => ad.1 (120 + i)) A U U.heap ∧ ∀ i, i < 6 → vk_R "ThreadBank$TextReader" (qm_six.getD i 0) (qm_stx.getD i "") (ad.1 (110 + i)) U) ∧
  (va_Nw (.methodLinkNest "ThreadBank$Memory" qm_nestM (qm_y qm_hasBit) "ThreadBank") U ∧ va_Nw (.fieldLinkNest "ThreadBank$Memory" qm_nestF "ThreadBank" "ROOMS" "[I" "ThreadBank") U)
theorem qm_Env.go {X : qm_X} {D : va_G} {ca : Nat → ClassId} {ad : qm_AD} {A B : Nat → Prop} {s U : State} (h : qm_Env X D ca ad A s) (hW : s.WarmedH U.vm) (hH : ∀ a : Nat, a < s.heap.size → ¬ A a → U.heap[a]? = s.heap[a]?) (hB : ∀ q, B q → A q) : qm_Env X D ca ad B U := by
  obtain ⟨⟨h1, h1z⟩, ⟨h2, h3, h4, h4b⟩, ⟨h5, h6, h6b⟩, ⟨h7, h8⟩, h9, h10⟩ := h
  have hv := hW.alike
  exact ⟨⟨va_K.moved hv h1, h1z⟩, ⟨((h2.moved hv).kept hH).narrow hB, ((h3.moved hv).kept hH).narrow hB, ((h4.moved hv).kept hH).narrow hB, ((h4b.moved hv).kept hH).narrow hB⟩, ⟨((h5.moved hv).kept hH).narrow hB, ((h6.moved hv).kept hH).narrow hB, ((h6b.moved hv).kept hH).narrow hB⟩, ⟨((h7.moved hv).kept hH).narrow hB, fun i hi => (h8 i hi).warm hW⟩, va_Nw.warmM hW h9, va_Nw.warmF hW h10⟩
theorem qm_Env.blind {X : qm_X} {D : va_G} {ca : Nat → ClassId} {ad : qm_AD} {A : Nat → Prop} {U V : State} (h : qm_Env X D ca ad A U) (hv : V.vm = U.vm) (hH : V.heap = U.heap) : qm_Env X D ca ad A V := by
  obtain ⟨⟨h1, h1z⟩, ⟨h2, h3, h4, h4b⟩, ⟨h5, h6, h6b⟩, ⟨h7, h8⟩, h9, h10⟩ := h
  have ha : U.vm.Alike V.vm := by rw [hv]; exact Vm.Alike.refl _
  unfold qm_Env
  rw [hH]
  exact ⟨⟨va_K.moved ha h1, h1z⟩, ⟨h2.moved ha, h3.moved ha, h4.moved ha, h4b.moved ha⟩, ⟨h5.moved ha, h6.moved ha, h6b.moved ha⟩, ⟨h7.moved ha, fun i hi => (h8 i hi).same hv⟩, va_Nw.same rfl hv.symm h9, va_Nw.same rfl hv.symm h10⟩
/-- where a method stands: machine, code, words, room -/
def qm_Cx (X : qm_X) (mid : Nat) (p : Program) (R : Room) (s : State) (m : MethodId) (args : Array Value) (c : Code) (cells slots : Nat) (D : va_G) (ca : Nat → ClassId) (ad : qm_AD) (A : Nat → Prop) : Prop :=
  (p.tables.exec = Jvm.exec ∧ c.code = qm_b mid ∧ c.maxLocals = qm_ml mid ∧ s.vm.findClass (qm_own mid) = some m.cls) ∧ (∀ w ∈ qm_tbl, w.before args s = true) ∧ qm_Env X D ca ad A s ∧ (∀ q, s.heap.size ≤ q → A q) ∧ (qm_fr mid ≤ R.frames ∧ qm_lo mid ≤ R.locals ∧ cells ≤ R.cells ∧ slots ≤ R.slots) ∧ mid < qm_n
/-- a return: at its pc stands the instruction that gives r back -/
def qm_rt (mid pc : Nat) (r : Option Value) : Prop := match r with
  | none => decode (qm_b mid) pc = .ok (.return_, 1) ∧ qm_ret mid = none
  | some (.int x) => decode (qm_b mid) pc = .ok (.ireturn, 1) ∧ ∃ ty, qm_ret mid = some ty ∧ narrow ty (.int x) = .int x
  | some (.long _) => decode (qm_b mid) pc = .ok (.lreturn, 1) ∧ qm_ret mid = some .long
  | some (.ref x) => decode (qm_b mid) pc = .ok (.areturn, 1) ∧ (∃ n, qm_ret mid = some (.object n)) ∧ x ≠ 140
  | _ => False
/-- PA: from this pc, with these locals, this stack and this store the method comes to its end, and there Q -/
def qm_PA (X : qm_X) (mid pc : Nat) (lv : qm_L) (st : List Value) (h : qm_H) (Q : qm_Q) : Prop :=
  ∀ (p : Program) (l : Launch) (e : Env) (R : Room) (s : State) (m : MethodId) (args : Array Value) (below : List Frame) (meth : Method) (c : Code) (H : Heap) (locs : List Loc) (cells slots : Nat) (Qw : State → Prop) (ls : Array Slot) (D : va_G) (ca : Nat → ClassId) (ad : qm_AD) (A : Nat → Prop),
    qm_Cx X mid p R s m args c cells slots D ca ad A → va_P D vwCl (qm_w ad ca h) H → va_D A (qm_w ad ca h) → va_S A s.heap H locs → lv_has ls (qm_ml mid) (lv.map (qm_lc ad)) →
    (∀ (pc' : Nat) (ls' : Array Slot) (H' : Heap) (locs' : List Loc) (h' : qm_H) (r : Option Value), qm_rt mid pc' r → Q r h' → va_P D vwCl (qm_w ad ca h') H' → va_S A s.heap H' locs' → W p l e R s m args below meth c H' locs' cells slots Qw (F0 m pc' ls' (r.toList.map (qm_cv ad)))) →
    W p l e R s m args below meth c H locs cells slots Qw (F0 m pc ls (st.map (qm_cv ad)))
def qm_PW (X : qm_X) (mid : Nat) (as : List Value) (h : qm_H) (Q : qm_Q) : Prop := qm_PA X mid 0 (lv_args 0 as) [] h Q
theorem qm_PA.mono {X : qm_X} {mid pc : Nat} {lv : qm_L} {st : List Value} {h : qm_H} {Q Q' : qm_Q} (hq : ∀ r h, Q r h → Q' r h) (k : qm_PA X mid pc lv st h Q) : qm_PA X mid pc lv st h Q' :=
  fun p l e R s m args below meth c H locs cells slots Qw ls D ca ad A hC hP hD hS hl hr => k p l e R s m args below meth c H locs cells slots Qw ls D ca ad A hC hP hD hS hl (fun pc' ls' H' locs' h' r h1 h2 => hr pc' ls' H' locs' h' r h1 (hq r h' h2))
/-- fewer locals known: more is said -/
theorem qm_PA.fewer {X : qm_X} {mid pc : Nat} {lv lv' : qm_L} {st : List Value} {h : qm_H} {Q : qm_Q} (hs : ∀ q ∈ lv', q ∈ lv) (k : qm_PA X mid pc lv' st h Q) : qm_PA X mid pc lv st h Q :=
  fun p l e R s m args below meth c H locs cells slots Qw ls D ca ad A hC hP hD hS hl hr => k p l e R s m args below meth c H locs cells slots Qw ls D ca ad A hC hP hD hS ⟨hl.1, hl.2.1, fun q hq => by
    obtain ⟨q0, h1, h2⟩ := List.mem_map.mp hq
    exact hl.2.2 q (List.mem_map.mpr ⟨q0, hs q0 h1, h2⟩)⟩ hr
end
section
/-! ===== one instruction ===== -/
theorem qm_lk {lv : qm_L} {a : Nat} {v : Value} (h : lv.lookup a = some v) : (a, v) ∈ lv := by
  induction lv with
  | nil => cases h
  | cons q t ih =>
    obtain ⟨k, w⟩ := q
    rw [List.lookup_cons] at h
    split at h
    · rename_i hk
      cases h
      rw [show a = k from by simpa using hk]
      exact List.mem_cons_self
    · exact List.mem_cons_of_mem _ (ih h)
theorem qm_ldi_spec {lv : qm_L} {a : Nat} {k : Int32 → Prop} (h : qm_ldi lv a k) : ∃ x, (a, Value.int x) ∈ lv ∧ k x := by
  unfold qm_ldi at h
  split at h
  · rename_i x e; exact ⟨x, qm_lk e, h⟩
  · exact h.elim
theorem qm_ldl_spec {lv : qm_L} {a : Nat} {k : Int64 → Prop} (h : qm_ldl lv a k) : ∃ x, (a, Value.long x) ∈ lv ∧ k x := by
  unfold qm_ldl at h
  split at h
  · rename_i x e; exact ⟨x, qm_lk e, h⟩
  · exact h.elim
theorem qm_lda_spec {lv : qm_L} {a : Nat} {k : Nat → Prop} (h : qm_lda lv a k) : ∃ x, (a, Value.ref x) ∈ lv ∧ k x := by
  unfold qm_lda at h
  split at h
  · rename_i x e; exact ⟨x, qm_lk e, h⟩
  · exact h.elim
theorem qm_bin_spec {st : List Value} {k : Int32 → Int32 → List Value → Prop} (h : qm_bin st k) : ∃ x y r, st = .int y :: .int x :: r ∧ k x y r := by
  match st, h with
  | .int y :: .int x :: r, h => exact ⟨x, y, r, rfl, h⟩
theorem qm_bil_spec {st : List Value} {k : Int64 → Int64 → List Value → Prop} (h : qm_bil st k) : ∃ x y r, st = .long y :: .long x :: r ∧ k x y r := by
  match st, h with
  | .long y :: .long x :: r, h => exact ⟨x, y, r, rfl, h⟩
theorem qm_one_spec {st : List Value} {k : Int32 → List Value → Prop} (h : qm_one st k) : ∃ x r, st = .int x :: r ∧ k x r := by
  match st, h with
  | .int x :: r, h => exact ⟨x, r, rfl, h⟩
theorem qm_onl_spec {st : List Value} {k : Int64 → List Value → Prop} (h : qm_onl st k) : ∃ x r, st = .long x :: r ∧ k x r := by
  match st, h with
  | .long x :: r, h => exact ⟨x, r, rfl, h⟩
theorem qm_onr_spec {st : List Value} {k : Nat → List Value → Prop} (h : qm_onr st k) : ∃ x r, st = .ref x :: r ∧ k x r := by
  match st, h with
  | .ref x :: r, h => exact ⟨x, r, rfl, h⟩
theorem qm_ins_mem {a : Nat} {v : Value} : ∀ (l : qm_L) (q : Nat × Value), q ∈ qm_put a v l → q = (a, v) ∨ q ∈ l
  | [], q, h => by
    rcases List.mem_cons.mp h with e | e
    · exact Or.inl e
    · cases e
  | (k, w) :: t, q, h => by
    unfold qm_put at h
    split at h
    · rcases List.mem_cons.mp h with e | e
      · exact Or.inr (by rw [e]; exact List.mem_cons_self)
      · rcases qm_ins_mem t q e with e | e
        · exact Or.inl e
        · exact Or.inr (List.mem_cons_of_mem _ e)
    · rcases List.mem_cons.mp h with e | e
      · exact Or.inl e
      · exact Or.inr e
theorem qm_set_has {ad : qm_AD} (hz : ad.2.category = 1) {ls : Array Slot} {nL a : Nat} {v w : Value} {lv : qm_L} (hw : qm_cv ad v = w) (h1 : v.category = 1) (h : lv_has ls nL ((a, w) :: (lv.map (qm_lc ad)).filter (fun q => !(q.1 == a) && !(q.1 + 1 == a && q.2.category == 2)))) : lv_has ls nL ((qm_set a v lv).map (qm_lc ad)) := by
  refine ⟨h.1, h.2.1, fun q hq => h.2.2 q ?_⟩
  obtain ⟨q0, h2, rfl⟩ := List.mem_map.mp hq
  rcases qm_ins_mem _ _ h2 with rfl | h3
  · rw [← hw]; exact List.mem_cons_self
  · obtain ⟨h4, h5⟩ := List.mem_filter.mp h3
    refine List.mem_cons_of_mem _ (List.mem_filter.mpr ⟨List.mem_map.mpr ⟨q0, h4, rfl⟩, ?_⟩)
    simp only [Bool.and_eq_true] at h5 ⊢
    refine ⟨h5.1.1, ?_⟩
    show (!((q0.1 + 1 == a) && ((qm_cv ad q0.2).category == 2))) = true
    rw [qm_cv_cat hz]
    exact h5.1.2
theorem qm_set_has2 {ad : qm_AD} (hz : ad.2.category = 1) {ls : Array Slot} {nL a : Nat} {x : Int64} {lv : qm_L} (h : lv_has ls nL ((a, Value.long x) :: (lv.map (qm_lc ad)).filter (fun q => !(q.1 == a) && (!(q.1 == a + 1) && !(q.1 + 1 == a && q.2.category == 2))))) : lv_has ls nL ((qm_set a (.long x) lv).map (qm_lc ad)) := by
  refine ⟨h.1, h.2.1, fun q hq => h.2.2 q ?_⟩
  obtain ⟨q0, h2, rfl⟩ := List.mem_map.mp hq
  rcases qm_ins_mem _ _ h2 with rfl | h3
  · exact List.mem_cons_self
  · obtain ⟨h4, h5⟩ := List.mem_filter.mp h3
    refine List.mem_cons_of_mem _ (List.mem_filter.mpr ⟨List.mem_map.mpr ⟨q0, h4, rfl⟩, ?_⟩)
    simp only [Bool.and_eq_true] at h5 ⊢
    refine ⟨h5.1.1, ?_, ?_⟩
    · have h6 := h5.2
      show (!(q0.1 == a + 1)) = true
      simpa [Value.category] using h6
    · show (!((q0.1 + 1 == a) && ((qm_cv ad q0.2).category == 2))) = true
      rw [qm_cv_cat hz]
      exact h5.1.2
theorem qm_i0 : (0 : Int32).toInt = 0 := rfl
theorem qm_lt {x y : Int32} : x < y ↔ x.toInt < y.toInt := Int32.lt_iff_toInt_lt
theorem qm_le {x y : Int32} : x ≤ y ↔ x.toInt ≤ y.toInt := Int32.le_iff_toInt_le
theorem qm_in {i : Int32} {n : Nat} (h : 0 ≤ i.toInt ∧ i.toInt < n) : vp_in i n := vp_in_iff.mpr h
theorem qm_fld_spec {h0 : qm_H} {r k ci : Nat} {kk : Value → Prop} (h : qm_fld h0 r k ci kk) : ∃ rs o, qm_sh[r]? = some (.inr (ci, rs)) ∧ rs[k]? = some o ∧ kk (match o with
    | some t => .ref t
    | none => .int (h0 r k)) := by
  unfold qm_fld at h
  split at h
  · rename_i c' rs e
    split at h
    · rename_i hc
      subst hc
      split at h
      · rename_i t e2; exact ⟨rs, _, e, e2, h⟩
      · rename_i e2; exact ⟨rs, _, e, e2, h⟩
      · exact h.elim
    · exact h.elim
  · exact h.elim
theorem qm_pfl_spec {h0 : qm_H} {r k ci : Nat} {x : Int32} {kk : qm_H → Prop} (h : qm_pfl h0 r k ci x kk) : ∃ rs, qm_sh[r]? = some (.inr (ci, rs)) ∧ rs[k]? = some none ∧ (qm_isz ci k = true → x = 0 ∨ x = 1) ∧ kk (qm_row h0 r (upd (h0 r) k x)) := by
  unfold qm_pfl at h
  split at h
  · rename_i c' rs e
    split at h
    · rename_i hc
      subst hc
      split at h
      · rename_i e2
        split at h
        · exact ⟨rs, e, e2, fun _ => h.1, h.2⟩
        · rename_i hz; exact ⟨rs, e, e2, fun q => absurd q hz, h⟩
      · exact h.elim
    · exact h.elim
  · exact h.elim
theorem qm_cls_in {a : Nat} {C : String} {T : u_T} {N : Nat} (h : vwCl[a]? = some (C, T, N)) : (∀ w ∈ u_ws C T N, w ∈ qm_tbl) ∧ ∃ ty : Nat → FieldType, (∀ k, k < N → parseFieldDescriptor (T k).2.2.1 = some (ty k)) ∧ ∀ x, x < N → ∀ y, y < N → x ≠ y → (T x).2.1 ≠ (T y).2.1 := by
  match a, h with
  | 0, h => cases h; exact ⟨by decide +kernel, tyX0, tyX0_ok, nmX0⟩
  | 1, h => cases h; exact ⟨by decide +kernel, tyX1, tyX1_ok, nmX1⟩
  | 2, h => cases h; exact ⟨by decide +kernel, tyX2, tyX2_ok, nmX2⟩
  | 3, h => cases h; exact ⟨by decide +kernel, tyX3, tyX3_ok, nmX3⟩
  | 4, h => cases h; exact ⟨by decide +kernel, tyX4, tyX4_ok, nmX4⟩
  | 5, h => cases h; exact ⟨by decide +kernel, tyX5, tyX5_ok, nmX5⟩
theorem qm_sw_go {x : Int32} {ts : List (Int32 × Nat)} {d : Nat} {k : Nat → Prop} (h : qm_sw x ts d k) : (∃ q ∈ ts, x = q.1 ∧ k q.2 ∧ ∀ q' ∈ ts, x = q'.1 → True) ∨ ((∀ q ∈ ts, ¬ x = q.1) ∧ k d) := by
  induction ts with
  | nil => exact Or.inr ⟨fun _ h => (by cases h), h⟩
  | cons q ts ih =>
    obtain ⟨v, t⟩ := q
    by_cases e : x = v
    · exact Or.inl ⟨(v, t), List.mem_cons_self, e, h.1 e, fun _ _ _ => trivial⟩
    · rcases ih (h.2 e) with ⟨q', h1, h2, h3, -⟩ | ⟨h1, h2⟩
      · exact Or.inl ⟨q', List.mem_cons_of_mem _ h1, h2, h3, fun _ _ _ => trivial⟩
      · refine Or.inr ⟨fun q' hq' => ?_, h2⟩
        rcases List.mem_cons.mp hq' with rfl | hq'
        · exact e
        · exact h1 q' hq'
theorem qm_tgs_spec {pc : Nat} : ∀ (offs : List Int) (ts : List (Int32 × Nat)) (lo : Int), qm_tgs pc lo offs ts = true → offs.length = ts.length ∧ ∀ (j : Nat) (q : Int32 × Nat), ts[j]? = some q → q.1.toInt = lo + j ∧ ∃ o, offs[j]? = some o ∧ (pc : Int) + o = (q.2 : Int)
  | [], [], lo, _ => ⟨rfl, fun j q h => by simp at h⟩
  | o :: offs, (v, t) :: ts, lo, h => by
    unfold qm_tgs at h
    simp only [Bool.and_eq_true, decide_eq_true_eq] at h
    obtain ⟨h1, h2⟩ := qm_tgs_spec offs ts (lo + 1) h.2
    refine ⟨by simp [h1], fun j q hj => ?_⟩
    cases j with
    | zero =>
      rw [List.getElem?_cons_zero] at hj
      cases hj
      exact ⟨by rw [h.1.1]; simp, o, rfl, h.1.2⟩
    | succ j =>
      rw [List.getElem?_cons_succ] at hj
      obtain ⟨a1, o', a2, a3⟩ := h2 j q hj
      refine ⟨by rw [a1]; omega, o', ?_, a3⟩
      rw [List.getElem?_cons_succ]; exact a2
theorem qm_lks_spec {pc d : Nat} {dflt : Int} (hd : (pc : Int) + dflt = (d : Int)) {x : Int32} {k : Nat → Prop} : ∀ (ps : List (Int × Int)) (ts : List (Int32 × Nat)), qm_lks pc ps ts = true → qm_sw x ts d k → ∃ tgt : Nat, (pc : Int) + Op.lookupswitch.offset ps dflt x.toInt = (tgt : Int) ∧ k tgt
  | [], [], _, h => ⟨d, hd, h⟩
  | (a, o) :: ps, (v, t) :: ts, hc, h => by
    unfold qm_lks at hc
    simp only [Bool.and_eq_true, decide_eq_true_eq] at hc
    rw [Op.lookupswitch.offset_cons]
    by_cases e : x = v
    · refine ⟨t, ?_, h.1 e⟩
      rw [if_pos (by rw [e]; exact hc.1.1.symm)]
      exact hc.1.2
    · obtain ⟨tgt, h1, h2⟩ := qm_lks_spec hd ps ts hc.2 (h.2 e)
      refine ⟨tgt, ?_, h2⟩
      rw [if_neg]
      · exact h1
      · intro q
        exact e (Int32.toInt_inj.mp (by rw [hc.1.1]; exact q.symm))
/-- what a call needs of its method's own words -/
theorem qm_mw {a : Nat} (ha : a < qm_n) (h9 : a ≠ qm_law) : (Cond.code (qm_y a) (qm_b a) (qm_ml a) (qm_ret a) ∈ qm_tbl ∧ Cond.initialized (qm_y a).cls ∈ qm_tbl) ∧ (qm_cls a = 9 → Cond.static (qm_y a) ∈ qm_tbl) ∧ (qm_cls a ≠ 9 → Cond.instanceMethod (qm_y a) ∈ qm_tbl ∧ Cond.selects (qm_y a).cls (qm_y a) (qm_y a) ∈ qm_tbl ∧ ((qm_cls a = 7 ∧ (qm_y a).cls = "java/lang/String") ∨ (qm_cls a ≠ 7 ∧ (vwCl[qm_cls a]?).map (fun q => q.1) = some (qm_y a).cls))) ∧ ((qm_y a).cls ≠ "java/lang/invoke/MethodHandle" ∧ (qm_y a).cls ≠ "java/lang/invoke/VarHandle" ∧ (parseMethodDescriptor (qm_y a).desc).map (fun d => d.parameters.length) = some (qm_np a)) ∧ plainFor (qm_y a) = true ∧ qm_own a = (qm_y a).cls := by
  have hl : a < qm_law := by
    have h1 : a < 240 := ha
    have h2 : a ≠ 239 := h9
    show a < 239
    omega
  have h := qm_mval a hl
  rw [Bool.and_eq_true] at h
  obtain ⟨h1, h2⟩ := h
  unfold qm_mk2 at h2
  simp only [Bool.and_eq_true, decide_eq_true_eq] at h2
  unfold qm_mk at h1
  split at h1
  · simp only [Bool.and_eq_true, decide_eq_true_eq] at h1
    exact ⟨⟨qm_cw a hl, qm_has_mem h1.2⟩, fun _ => qm_has_mem h1.1.2, fun q => absurd h1.1.1 q, ⟨h2.1.1.1.1, h2.1.1.1.2, h2.1.1.2⟩, h2.1.2, h2.2⟩
  · simp only [Bool.and_eq_true, decide_eq_true_eq] at h1
    refine ⟨⟨qm_cw a hl, qm_has_mem h1.1.2⟩, fun q => absurd q h1.1.1.1.1, fun _ => ⟨qm_has_mem h1.1.1.1.2, qm_has_mem h1.1.1.2, ?_⟩, ⟨h2.1.1.1.1, h2.1.1.1.2, h2.1.1.2⟩, h2.1.2, h2.2⟩
    have h3 := h1.2
    split at h3
    · rename_i e; exact Or.inl ⟨e, of_decide_eq_true h3⟩
    · rename_i e; exact Or.inr ⟨e, of_decide_eq_true h3⟩
  · cases h1
end
section
/-! ===== a method's contract out of its formula ===== -/
def qm_sz (vs : List Value) : Nat := (vs.map fun v => v.category).sum
theorem qm_sz_sl : ∀ vs : List Value, (lg_sl vs).length = qm_sz vs
  | [] => rfl
  | v :: vs => by
    have ih := qm_sz_sl vs
    have e : lg_sl (v :: vs) = (if v.category = 2 then [Slot.val v, .second] else [Slot.val v]) ++ lg_sl vs := by simp [lg_sl]
    rw [e, List.length_append, ih]
    show _ = v.category + qm_sz vs
    rcases lv_cat v with h | h <;> simp [h]
theorem qm_sz_cv {ad : qm_AD} (hz : ad.2.category = 1) (vs : List Value) : qm_sz (vs.map (qm_cv ad)) = qm_sz vs := by
  unfold qm_sz
  rw [List.map_map]
  congr 1
  apply List.map_congr_left
  intro v _
  exact qm_cv_cat hz v
theorem qm_args_cv {ad : qm_AD} (hz : ad.2.category = 1) : ∀ (vs : List Value) (k : Nat), lv_args k (vs.map (qm_cv ad)) = (lv_args k vs).map (qm_lc ad)
  | [], _ => rfl
  | v :: vs, k => by
    show (k, qm_cv ad v) :: lv_args (if (qm_cv ad v).category = 2 then k + 2 else k + 1) (vs.map (qm_cv ad)) = _
    rw [qm_cv_cat hz, qm_args_cv hz vs]
    rfl
def qm_rm (mid : Nat) : Room := { frames := qm_fr mid, cells := 0, slots := 0, locals := qm_lo mid }
def qm_ws (mid : Nat) : List Cond := Cond.code (qm_y mid) (qm_b mid) (qm_ml mid) (qm_ret mid) :: qm_tbl
def qm_Pc (X : qm_X) (D : va_G) (ca : Nat → ClassId) (ad : qm_AD) (h : qm_H) (sz : Nat) (as : List Value) : Array Value → State → Prop := va_Pc (as.map (qm_cv ad)) (fun U => U.heap.size = sz ∧ va_P D vwCl (qm_w ad ca h) U.heap ∧ va_D (fun _ => True) (qm_w ad ca h) ∧ qm_Env X D ca ad (va_A (qm_w ad ca h) sz) U)
def qm_Qc (D : va_G) (ca : Nat → ClassId) (ad : qm_AD) (Q : qm_Q) (A : Nat → Prop) : Array Value → State → Outcome → State → Prop := fun _ st oc t => (∃ (r : Option Value) (h' : qm_H), oc = .returned (r.map (qm_cv ad)) ∧ Q r h' ∧ va_P D vwCl (qm_w ad ca h') t.heap) ∧ va_F A st t
theorem qm_met {X : qm_X} {mid : Nat} {as : List Value} {h : qm_H} {Q : qm_Q} (hm : mid < qm_n) (h9 : mid ≠ qm_law) (hsz : qm_sz as ≤ qm_ml mid) (k : qm_PW X mid as h Q) (l : Launch) (D : va_G) (ca : Nat → ClassId) (ad : qm_AD) (sz : Nat) : Met l (qm_y mid) (qm_ws mid) (qm_rm mid) (qm_Pc X D ca ad h sz as) (qm_Qc D ca ad Q (va_A (qm_w ad ca h) sz)) 0 0 (va_A (qm_w ad ca h) sz) := by
  obtain ⟨⟨hcd, hini⟩, -, -, -, hpl, hownE⟩ := qm_mw hm h9
  refine va_MetF (cc := qm_b mid) (maxL := qm_ml mid) (ret := qm_ret mid) hpl rfl ?_
  intro p e s m args below meth c s₁ B hml hv
  obtain ⟨rfl, hszz, hP, hD0, hE⟩ := hv
  have hts := atoms_spec (ws := qm_ws mid) B.pre
  have hown : s.vm.findClass (qm_own mid) = some m.cls := by rw [hownE]; exact findClass_of_methodNamed B.named
  have hlocks := B.notSynchronized
  subst hszz
  have hz := hE.1.2
  have hl := lv_entry (as.map (qm_cv ad)) (n := qm_ml mid) (by rw [qm_sz_sl, qm_sz_cv hz]; exact hsz)
  rw [qm_args_cv hz] at hl
  rw [lg_entry_eq]
  refine k p l e (qm_rm mid) s m _ below meth c s.heap [] 0 0 _ _ D ca ad (va_A (qm_w ad ca h) s.heap.size) ⟨⟨B.exec, B.bytes, hml, hown⟩, fun w hw => hts w (List.mem_cons_of_mem _ hw), hE, fun q hq => Or.inr hq, ⟨Nat.le_refl _, Nat.le_refl _, Nat.le_refl _, Nat.le_refl _⟩, hm⟩ hP hD0.self va_S.rf hl ?_
  intro pc' ls' H' locs' h' r hrt hq hP' hS'
  have post : ∀ t : State, t.heap = H' → qm_Qc D ca ad Q (va_A (qm_w ad ca h) s.heap.size) (as.map (qm_cv ad)).toArray s (.returned (r.map (qm_cv ad))) t := fun t ht => ⟨⟨r, h', rfl, hq, by rw [ht]; exact hP'⟩, hS'.F ht⟩
  cases r with
  | none => exact W.vret B.exec B.bytes (B.returns.trans hrt.2) (fun t ht _ => post t ht) hS'.2.2 hrt.1
  | some v =>
    cases v with
    | int x =>
      obtain ⟨h1, ty, h2, h3⟩ := hrt
      exact W.zret B.exec B.bytes (B.returns.trans h2) h3 (fun t ht _ => post t ht) hS'.2.2 h1
    | long x => exact W.lret B.exec B.bytes (B.returns.trans hrt.2) (fun t ht _ => post t ht) hS'.2.2 hrt.1
    | ref x =>
      obtain ⟨h1, ⟨n, h2⟩, h3⟩ := hrt
      refine W.aret B.exec B.bytes (B.returns.trans h2) (Or.inl ⟨n, rfl⟩) (Or.inr ⟨ad.1 x, qm_cv_ref h3⟩) (fun t ht _ => post t ht) hS'.2.2 h1
    | _ => exact hrt.elim
/-- behind a call -/
theorem qm_behind {p : Program} {l : Launch} {e : Env} {R : Room} {s : State} {m : MethodId} {args : Array Value} {below : List Frame} {meth : Method} {c : Code} {H : Heap} {locs : List Loc} {cells slots : Nat} {Qw : State → Prop} {pc : Nat} {ls : Array Slot} {st0 rest : List Value} {D : va_G} {ca : Nat → ClassId} {ad : qm_AD} {Q : qm_Q} {A A1 : Nat → Prop} {free : Addr → Prop} {a : Array Value}
    (hr : va_Run p l e R s m args below meth c H locs cells slots 0 0 (F0 m pc ls st0) rest (qm_Qc D ca ad Q A1 a) free) (hS : va_S A s.heap H locs) (hA : ∀ q, q < H.size → A1 q → A q) (hf : ∀ q, free q → A q)
    (kk : ∀ (r : Option Value) (h' : qm_H) (H1 : Heap) (locs1 : List Loc), Q r h' → va_P D vwCl (qm_w ad ca h') H1 → va_S A s.heap H1 locs1 → W p l e R s m args below meth c H1 locs1 cells slots Qw (F0 m (pc + 3) ls ((r.map (qm_cv ad)).toList ++ rest))) : W p l e R s m args below meth c H locs cells slots Qw (F0 m pc ls st0) := by
  intro T hT X
  obtain ⟨v, st₀, t, T', L, h0, X', hL, e1, e2, ⟨⟨r, h', hv, hq, hP⟩, hz, hk⟩, st⟩ := hr T hT X
  cases hv
  rw [h0] at hz hk
  obtain ⟨t2, a1, b1⟩ := kk r h' T'.heap (locs ++ L) hq (by rw [e1]; exact hP)
    ⟨Nat.le_trans hS.1 (by rw [e1]; exact hz), fun q h1 h2 => by rw [e1, hk q (Nat.lt_of_lt_of_le h1 hS.1) (fun z => h2 (hA q (Nat.lt_of_lt_of_le h1 hS.1) z))]; exact hS.2.1 q h1 h2, fun q hq => by
      rcases List.mem_append.mp hq with h | h
      · exact hS.2.2 q h
      · exact hf _ (hL q h)⟩ T' rfl X'
  exact ⟨t2, st t2 a1, b1⟩
theorem qm_Pc_blind {X : qm_X} {D : va_G} {ca : Nat → ClassId} {ad : qm_AD} {h : qm_H} {sz : Nat} {as : List Value} : FrameBlind (qm_Pc X D ca ad h sz as) := by
  intro a U g mk q
  obtain ⟨q0, q1, qP, qD, qE⟩ := q
  exact ⟨q0, q1, qP, qD, qE.blind rfl rfl⟩
theorem qm_Pc_go {X : qm_X} {D : va_G} {ca : Nat → ClassId} {ad : qm_AD} {h : qm_H} {as : List Value} {A : Nat → Prop} {s : State} {H : Heap} {locs : List Loc} (hE : qm_Env X D ca ad A s) (hP : va_P D vwCl (qm_w ad ca h) H) (hD : va_D A (qm_w ad ca h)) (hS : va_S A s.heap H locs) (hF : ∀ q, va_A (qm_w ad ca h) H.size q → A q) (U : State) (hU : U.heap = H) (hW : s.WarmedH U.vm) : qm_Pc X D ca ad h H.size as (as.map (qm_cv ad)).toArray U :=
  ⟨rfl, by rw [hU], by rw [hU]; exact hP, hD.weaken (fun _ _ _ _ => trivial), hE.go hW (fun a h1 h2 => by rw [hU]; exact hS.2.1 a h1 h2) hF⟩
theorem qm_w_free {ad : qm_AD} {ca : Nat → ClassId} {h : qm_H} {A : Nat → Prop} {s : State} {H : Heap} {locs : List Loc} (hD : va_D A (qm_w ad ca h)) (hS : va_S A s.heap H locs) (hA : ∀ q, s.heap.size ≤ q → A q) : ∀ q, va_A (qm_w ad ca h) H.size q → A q := by
  intro q hq
  rcases hq with ⟨k, e, hk⟩ | hq
  · exact hD.2 k (q, e) hk
  · exact hA q (Nat.le_trans hS.1 hq)
end
section
/-! ===== the step: an instruction's formula gives the machine's own run ===== -/
theorem qm_ald_spec {X : qm_X} {t r : Nat} {i : Int32} {h0 : qm_H} {kk : Int32 → Prop} (h : qm_ald X t r i h0 kk) : (∃ t' n, qm_sh[r]? = some (.inl (t', n)) ∧ ((t = 0 ∧ t' = 0) ∨ (t = 1 ∧ (t' = 1 ∨ t' = 2))) ∧ (0 ≤ i.toInt ∧ i.toInt < n) ∧ kk (h0 r i.toInt.toNat)) ∨ (∃ n f, qm_ca X r = some (t, n, f) ∧ (0 ≤ i.toInt ∧ i.toInt < n) ∧ kk (f i.toInt.toNat)) := by
  unfold qm_ald at h
  split at h
  · rename_i t' n e
    split at h
    · rename_i hc; exact Or.inl ⟨t', n, e, hc, h.1, h.2⟩
    · exact h.elim
  · exact h.elim
  · split at h
    · rename_i t' n f e
      split at h
      · rename_i hc; subst hc; exact Or.inr ⟨n, f, e, h.1, h.2⟩
      · exact h.elim
    · exact h.elim
theorem qm_ast_spec {t r : Nat} {i : Int32} {h0 : qm_H} {x : Int32} {kk : qm_H → Prop} (h : qm_ast t r i h0 x kk) : ∃ t' n, qm_sh[r]? = some (.inl (t', n)) ∧ (0 ≤ i.toInt ∧ i.toInt < n) ∧ ((t = 0 ∧ t' = 0 ∧ kk (qm_row h0 r (upd (h0 r) i.toInt.toNat x))) ∨ (t = 1 ∧ t' = 1 ∧ kk (qm_row h0 r (upd (h0 r) i.toInt.toNat x.toInt8.toInt32))) ∨ (t = 1 ∧ t' = 2 ∧ kk (qm_row h0 r (upd (h0 r) i.toInt.toNat (vp_nar .boolean x))))) := by
  unfold qm_ast at h
  split at h
  · rename_i t' n e
    split at h
    · rename_i hc; exact ⟨t', n, e, h.1, Or.inl ⟨hc.1, hc.2, h.2⟩⟩
    · split at h
      · rename_i hc; exact ⟨t', n, e, h.1, Or.inr (Or.inl ⟨hc.1, hc.2, h.2⟩)⟩
      · split at h
        · rename_i hc; exact ⟨t', n, e, h.1, Or.inr (Or.inr ⟨hc.1, hc.2, h.2⟩)⟩
        · exact h.elim
  · exact h.elim
theorem qm_ca_spec {X : qm_X} {D : va_G} {ca : Nat → ClassId} {ad : qm_AD} {A : Nat → Prop} {U : State} (hE : qm_Env X D ca ad A U) {r t n : Nat} {f : Nat → Int32} (h : qm_ca X r = some (t, n, f)) : r ≠ 140 ∧ ((t = 0 ∧ va_T .int (ad.1 r) n (fun j => .int (f j)) A U U.heap) ∨ (t = 1 ∧ va_T .byte (ad.1 r) n (fun j => .int (f j)) A U U.heap)) := by
  unfold qm_ca at h
  split at h
  · rename_i e; subst e
    have h2 := Option.some.inj h
    rw [← (Prod.mk.inj h2).1, ← (Prod.mk.inj (Prod.mk.inj h2).2).1, ← (Prod.mk.inj (Prod.mk.inj h2).2).2]
    exact ⟨by decide, Or.inl ⟨rfl, hE.2.2.1.1⟩⟩
  · split at h
    · rename_i e; subst e
      have h2 := Option.some.inj h
      rw [← (Prod.mk.inj h2).1, ← (Prod.mk.inj (Prod.mk.inj h2).2).1, ← (Prod.mk.inj (Prod.mk.inj h2).2).2]
      exact ⟨by decide, Or.inl ⟨rfl, hE.2.2.1.2.1⟩⟩
    · split at h
      · rename_i e; subst e
        have h2 := Option.some.inj h
        rw [← (Prod.mk.inj h2).1, ← (Prod.mk.inj (Prod.mk.inj h2).2).1, ← (Prod.mk.inj (Prod.mk.inj h2).2).2]
        exact ⟨by decide, Or.inl ⟨rfl, hE.2.2.1.2.2⟩⟩
      · split at h
        · rename_i e
          have h2 := Option.some.inj h
          rw [← (Prod.mk.inj h2).1, ← (Prod.mk.inj (Prod.mk.inj h2).2).1, ← (Prod.mk.inj (Prod.mk.inj h2).2).2]
          have h1 := (hE.2.2.2.1.1.1 (r - 120) (by omega)).2.2.2
          dsimp only at h1
          rw [show 120 + (r - 120) = r from by omega] at h1
          exact ⟨by omega, Or.inr ⟨rfl, h1⟩⟩
        · cases h
theorem qm_len_spec {X : qm_X} {r : Nat} {kk : Int32 → Prop} (h : qm_len X r kk) : (∃ t n, qm_sh[r]? = some (.inl (t, n)) ∧ kk (nI n)) ∨ (∃ t n f, qm_ca X r = some (t, n, f) ∧ kk (nI n)) := by
  unfold qm_len at h
  split at h
  · rename_i t n e; exact Or.inl ⟨t, n, e, h⟩
  · exact h.elim
  · split at h
    · rename_i t n f e; exact Or.inr ⟨t, n, f, e, h⟩
    · exact h.elim
theorem qm_sh_ty : qm_sh.all (fun c => match c with
    | .inl (t, _) => decide (t < 3)
    | .inr _ => true) = true := by decide +kernel
theorem qm_sh_t3 {r t n : Nat} (h : qm_sh[r]? = some (.inl (t, n))) : t = 0 ∨ t = 1 ∨ t = 2 := by
  have h1 := List.all_eq_true.mp qm_sh_ty _ (List.mem_of_getElem? h)
  have h2 : t < 3 := of_decide_eq_true h1
  omega
theorem qm_cpy_spec {h0 : qm_H} {st : List Value} {kk : qm_H → List Value → Prop} (h : qm_cpy h0 st kk) : ∃ (n dp sp : Int32) (d s0 n0 n1 : Nat) (rest : List Value), st = .int n :: .int dp :: .ref d :: .int sp :: .ref s0 :: rest ∧ qm_sh[s0]? = some (.inl (0, n0)) ∧ qm_sh[d]? = some (.inl (0, n1)) ∧ (rest.map fun v => v.category).sum = 0 ∧ (0 ≤ sp.toInt ∧ 0 ≤ dp.toInt ∧ 0 ≤ n.toInt ∧ sp.toInt + n.toInt ≤ n0 ∧ dp.toInt + n.toInt ≤ n1) ∧ kk (qm_row h0 d (va_cpy (h0 s0) (h0 d) sp.toInt.toNat dp.toInt.toNat n.toInt.toNat)) rest := by
  unfold qm_cpy at h
  split at h
  · rename_i n dp d sp s0 rest
    split at h
    · rename_i t0 n0 t1 n1 e0 e1
      split at h
      · rename_i hc
        obtain ⟨rfl, rfl, hc⟩ := hc
        exact ⟨n, dp, sp, d, s0, n0, n1, rest, rfl, e0, e1, hc, h.1, h.2⟩
      · exact h.elim
    · exact h.elim
  · exact h.elim
theorem qm_goodW {a : Nat} (hc : Cond.code (qm_y a) (qm_b a) (qm_ml a) (qm_ret a) ∈ qm_tbl) : GoodIn qm_tbl (qm_ws a) := by
  intro w hw
  rcases List.mem_cons.mp hw with rfl | hw
  · exact qm_tbl_in _ hc
  · exact qm_tbl_in _ hw
theorem qm_cat_cv {ad : qm_AD} (hz : ad.2.category = 1) (vs : List Value) : ((vs.map (qm_cv ad)).map fun v => v.category).sum = (vs.map fun v => v.category).sum := qm_sz_cv hz vs
theorem qm_retI_spec {rt : Option FieldType} {v : Int32} {k : Prop} (h : qm_retI rt v k) : (∃ ty, rt = some ty ∧ narrow ty (.int v) = .int v) ∧ k := by
  unfold qm_retI at h
  split at h
  · exact ⟨⟨_, rfl, rfl⟩, h⟩
  · refine ⟨⟨_, rfl, ?_⟩, h.2⟩
    rcases h.1 with rfl | rfl <;> rfl
  · refine ⟨⟨_, rfl, ?_⟩, h.2⟩
    rw [h.1]; rfl
  · refine ⟨⟨_, rfl, ?_⟩, h.2⟩
    obtain ⟨⟨h1, h2⟩, -⟩ := h
    obtain ⟨n, hn, e⟩ : ∃ n : Nat, n < 65536 ∧ v = nI n := by
      refine ⟨v.toInt.toNat, by omega, ?_⟩
      apply Int32.toInt_inj.mp
      rw [nI_toInt (by omega)]
      omega
    rw [e]
    exact (pk_charN hn).1
  · exact h.elim
theorem qm_ne {r : Nat} (h : r < 51) : r ≠ 140 := by omega
theorem qm_ne2 {r : Nat} (h : 110 ≤ r ∧ r < 116) : r ≠ 140 := by omega
theorem qm_ne3 {r : Nat} (h : 110 ≤ r ∧ r < 116) : r + 10 ≠ 140 := by omega
theorem qm_sub1 {r : Nat} (h : 110 ≤ r ∧ r < 116) : r - 110 < 6 ∧ 110 + (r - 110) = r ∧ 120 + (r - 110) = r + 10 := by omega
set_option maxHeartbeats 4000000 in
set_option maxRecDepth 100000 in
theorem qm_step {X : qm_X} {mid pc : Nat} {lv : qm_L} {st : List Value} {h : qm_H} {Q : qm_Q} {I : qm_I} (ha : qm_at mid pc = some I)
    (k : qm_ins X (qm_ret mid) qm_cls qm_ml I lv st h (fun pc' lv' st' h' => qm_PA X mid pc' lv' st' h' Q) (fun m as P => m ≠ qm_law ∧ qm_PW X m as h P) Q) : qm_PA X mid pc lv st h Q := by
  obtain ⟨i, nx, a, b, v, ts⟩ := I
  intro p l e R s m args below meth c H locs cells slots Qw ls D ca ad A hC hP hD hS hl hr
  have hC0 := hC
  obtain ⟨⟨hx, hb, hml, hown⟩, hts, hE, hA, ⟨hfr, hlo, hcel, hslo⟩, hmid⟩ := hC
  obtain ⟨hd, hn, j, q, hk⟩ := qm_at_ok hmid ha
  have hz := hE.1.2
  have hK := hE.1.1
  have go : ∀ {pc' : Nat} {lv' : qm_L} {st' : List Value} {h' : qm_H} {H' : Heap} {locs' : List Loc} {ls' : Array Slot}, qm_PA X mid pc' lv' st' h' Q → va_P D vwCl (qm_w ad ca h') H' → va_S A s.heap H' locs' → lv_has ls' (qm_ml mid) (lv'.map (qm_lc ad)) → W p l e R s m args below meth c H' locs' cells slots Qw (F0 m pc' ls' (st'.map (qm_cv ad))) :=
    fun k' hP' hS' hl' => k' p l e R s m args below meth c _ _ cells slots Qw _ D ca ad A hC0 hP' (qm_w_D hD) hS' hl' hr
  have loc : ∀ {q : Nat × Value}, q ∈ lv → ls[q.1]? = some (.val (qm_cv ad q.2)) := fun hq => hl.2.2 _ (List.mem_map.mpr ⟨_, hq, rfl⟩)
  cases i
  case iconst n =>
    have hv := of_decide_eq_true hk
    subst hv
    have hnx : nx = pc + 1 := by simpa [qm_nl, qm_ln] using hn
    subst hnx
    exact lv_iconst hx hb hd rfl (go k hP hS hl)
  case bipush n =>
    have hv := of_decide_eq_true hk
    subst hv
    have hnx : nx = pc + 2 := by simpa [qm_nl, qm_ln] using hn
    subst hnx
    exact lv_bipush hx hb hd rfl (go k hP hS hl)
  case sipush n =>
    have hv := of_decide_eq_true hk
    subst hv
    have hnx : nx = pc + 3 := by simpa [qm_nl, qm_ln] using hn
    subst hnx
    exact lv_sipush hx hb hd rfl (go k hP hS hl)
  case lconst n =>
    have hv := of_decide_eq_true hk
    subst hv
    have hnx : nx = pc + 1 := by simpa [qm_nl, qm_ln] using hn
    subst hnx
    exact lv_lconst hx hb hd rfl (go k hP hS hl)
  case ldc n =>
    have hnx : nx = pc + 2 := by simpa [qm_nl, qm_ln] using hn
    subst hnx
    unfold qm_ck at hk
    dsimp only at hk
    split at hk
    · exact lv_ldc hx hb hown (hts _ (qm_has_mem hk)) hd (go k hP hS hl)
    · rename_i r
      simp only [Bool.and_eq_true, decide_eq_true_eq] at hk
      obtain ⟨⟨ho, h1, h2⟩, h3⟩ := hk
      have hR := hE.2.2.2.1.2 (r - 110) (qm_sub1 ⟨h1, h2⟩).1
      rw [h3, ← ho] at hR
      rw [(qm_sub1 ⟨h1, h2⟩).2.1] at hR
      have k' := go k hP hS hl
      rw [List.map_cons, qm_cv_ref (qm_ne2 ⟨h1, h2⟩)] at k'
      exact va_ldcS hx hb hown hR hd k'
    · cases hk
  case ldc_w n =>
    have hnx : nx = pc + 3 := by simpa [qm_nl, qm_ln] using hn
    subst hnx
    unfold qm_ck at hk
    dsimp only at hk
    split at hk
    · exact lv_ldcw hx hb hown (hts _ (qm_has_mem hk)) hd (go k hP hS hl)
    · cases hk
  case ldc2_w n =>
    have hnx : nx = pc + 3 := by simpa [qm_nl, qm_ln] using hn
    subst hnx
    unfold qm_ck at hk
    dsimp only at hk
    split at hk
    · exact lv_ldc2 hx hb hown (hts _ (qm_has_mem hk)) hd (go k hP hS hl)
    · cases hk
  case getstatic n =>
    have hnx : nx = pc + 3 := by simpa [qm_nl, qm_ln] using hn
    subst hnx
    unfold qm_ck at hk
    dsimp only at hk
    split at hk
    · rename_i r
      simp only [Bool.or_eq_true, Bool.and_eq_true, decide_eq_true_eq] at hk
      rcases hk with (⟨⟨h1, h2⟩, h3⟩ | ⟨h1, h2⟩) | ⟨h1, h2⟩
      · subst h1; subst h3
        refine va_getsN hx hb hE.2.1.1 hS (by rw [← h2]; exact hown) (va_Nw.use rfl hE.2.2.2.2.2) (fun _ h => h) hd ?_
        exact go k hP hS hl
      · subst h1
        exact va_gets hx hb hE.2.1.2.1 hS hown (hts _ (qm_has_mem h2)) (fun _ h => h) hd (go k hP hS hl)
      · subst h1
        exact va_gets hx hb hE.2.1.2.2.2 hS hown (hts _ (qm_has_mem h2)) (fun _ h => h) hd (go k hP hS hl)
    · rename_i x
      simp only [Bool.and_eq_true, decide_eq_true_eq] at hk
      obtain ⟨h1, h2⟩ := hk
      subst h1
      exact va_gets hx hb hE.2.1.2.2.1 hS hown (hts _ (qm_has_mem h2)) (fun _ h => h) hd (go k hP hS hl)
    · cases hk
  case iload_n n =>
    have hv := of_decide_eq_true hk
    have hnx : nx = pc + 1 := by simpa [qm_nl, qm_ln] using hn
    subst hnx
    obtain ⟨x, h1, k⟩ := qm_ldi_spec k
    exact lv_iload_n hx hb hd hv (loc h1) (go k hP hS hl)
  case iload n =>
    have hv := of_decide_eq_true hk
    subst hv
    have hnx : nx = pc + 2 := by simpa [qm_nl, qm_ln] using hn
    subst hnx
    obtain ⟨x, h1, k⟩ := qm_ldi_spec k
    exact lv_iload hx hb hd (loc h1) (go k hP hS hl)
  case lload_n n =>
    have hv := of_decide_eq_true hk
    have hnx : nx = pc + 1 := by simpa [qm_nl, qm_ln] using hn
    subst hnx
    obtain ⟨x, h1, k⟩ := qm_ldl_spec k
    exact lv_lload_n hx hb hd hv (loc h1) (go k hP hS hl)
  case lload n =>
    have hv := of_decide_eq_true hk
    subst hv
    have hnx : nx = pc + 2 := by simpa [qm_nl, qm_ln] using hn
    subst hnx
    obtain ⟨x, h1, k⟩ := qm_ldl_spec k
    exact lv_lload hx hb hd (loc h1) (go k hP hS hl)
  case aload_n n =>
    have hv := of_decide_eq_true hk
    have hnx : nx = pc + 1 := by simpa [qm_nl, qm_ln] using hn
    subst hnx
    obtain ⟨x, h1, k⟩ := qm_lda_spec k
    split at k
    · exact k.elim
    · rename_i h140
      have h2 := loc h1
      rw [qm_cv_ref h140] at h2
      have k' := go k hP hS hl
      rw [List.map_cons, qm_cv_ref h140] at k'
      exact lv_aload_n hx hb hd hv h2 k'
  case istore_n n =>
    unfold qm_ck at hk
    simp only [Bool.and_eq_true, decide_eq_true_eq] at hk
    have hnx : nx = pc + 1 := by simpa [qm_nl, qm_ln] using hn
    subst hnx
    obtain ⟨x, r, hst, k2⟩ := qm_one_spec k
    clear k
    subst hst
    have k2 := qm_stK_eq.mp k2
    exact lv_istore_n hx hb hd hk.1 hl hk.2 rfl (fun ls' hl' => go k2 hP hS (qm_set_has hz rfl rfl hl'))
  case istore n =>
    unfold qm_ck at hk
    simp only [Bool.and_eq_true, decide_eq_true_eq] at hk
    obtain ⟨hk1, hk2⟩ := hk
    subst hk1
    have hnx : nx = pc + 2 := by simpa [qm_nl, qm_ln] using hn
    subst hnx
    obtain ⟨x, r, hst, k2⟩ := qm_one_spec k
    clear k
    subst hst
    have k2 := qm_stK_eq.mp k2
    exact lv_istore hx hb hd hl hk2 rfl (fun ls' hl' => go k2 hP hS (qm_set_has hz rfl rfl hl'))
  case lstore_n n =>
    unfold qm_ck at hk
    simp only [Bool.and_eq_true, decide_eq_true_eq] at hk
    have hnx : nx = pc + 1 := by simpa [qm_nl, qm_ln] using hn
    subst hnx
    obtain ⟨x, r, hst, k2⟩ := qm_onl_spec k
    clear k
    subst hst
    have k2 := qm_stK_eq.mp k2
    exact lv_lstore_n hx hb hd hk.1 hl hk.2 rfl (fun ls' hl' => go k2 hP hS (qm_set_has2 hz hl'))
  case lstore n =>
    unfold qm_ck at hk
    simp only [Bool.and_eq_true, decide_eq_true_eq] at hk
    obtain ⟨hk1, hk2⟩ := hk
    subst hk1
    have hnx : nx = pc + 2 := by simpa [qm_nl, qm_ln] using hn
    subst hnx
    obtain ⟨x, r, hst, k2⟩ := qm_onl_spec k
    clear k
    subst hst
    have k2 := qm_stK_eq.mp k2
    exact lv_lstore hx hb hd hl hk2 rfl (fun ls' hl' => go k2 hP hS (qm_set_has2 hz hl'))
  case iinc n w =>
    unfold qm_ck at hk
    simp only [Bool.and_eq_true, decide_eq_true_eq] at hk
    obtain ⟨⟨hk1, hk2⟩, hk3⟩ := hk
    subst hk1; subst hk2
    have hnx : nx = pc + 3 := by simpa [qm_nl, qm_ln] using hn
    subst hnx
    obtain ⟨x, h1, k⟩ := qm_ldi_spec k
    have k := qm_stK_eq.mp k
    obtain ⟨i, hi⟩ := List.getElem?_of_mem (List.mem_map.mpr ⟨_, h1, rfl⟩ : qm_lc ad (n, .int x) ∈ lv.map (qm_lc ad))
    exact lv_iinc hx hb hd hl (k := i) hi rfl hk3 rfl (fun ls' hl' => go k hP hS (qm_set_has hz rfl rfl hl'))
  case iadd =>
    have hnx : nx = pc + 1 := by simpa [qm_nl, qm_ln] using hn
    subst hnx
    obtain ⟨x, y, r, hst, k2⟩ := qm_bin_spec k
    clear k
    subst hst
    exact lv_iadd hx hb hd (go k2 hP hS hl)
  case isub =>
    have hnx : nx = pc + 1 := by simpa [qm_nl, qm_ln] using hn
    subst hnx
    obtain ⟨x, y, r, hst, k2⟩ := qm_bin_spec k
    clear k
    subst hst
    exact lv_isub hx hb hd (go k2 hP hS hl)
  case imul =>
    have hnx : nx = pc + 1 := by simpa [qm_nl, qm_ln] using hn
    subst hnx
    obtain ⟨x, y, r, hst, k2⟩ := qm_bin_spec k
    clear k
    subst hst
    exact lv_imul hx hb hd (go k2 hP hS hl)
  case iand =>
    have hnx : nx = pc + 1 := by simpa [qm_nl, qm_ln] using hn
    subst hnx
    obtain ⟨x, y, r, hst, k2⟩ := qm_bin_spec k
    clear k
    subst hst
    exact lv_iand hx hb hd (go k2 hP hS hl)
  case ior =>
    have hnx : nx = pc + 1 := by simpa [qm_nl, qm_ln] using hn
    subst hnx
    obtain ⟨x, y, r, hst, k2⟩ := qm_bin_spec k
    clear k
    subst hst
    exact lv_ior hx hb hd (go k2 hP hS hl)
  case ixor =>
    have hnx : nx = pc + 1 := by simpa [qm_nl, qm_ln] using hn
    subst hnx
    obtain ⟨x, y, r, hst, k2⟩ := qm_bin_spec k
    clear k
    subst hst
    exact lv_ixor hx hb hd (go k2 hP hS hl)
  case idiv =>
    have hnx : nx = pc + 1 := by simpa [qm_nl, qm_ln] using hn
    subst hnx
    obtain ⟨x, y, r, hst, k1, k2⟩ := qm_bin_spec k
    clear k
    subst hst
    exact lv_idiv hx hb hd k1 (go k2 hP hS hl)
  case irem =>
    have hnx : nx = pc + 1 := by simpa [qm_nl, qm_ln] using hn
    subst hnx
    obtain ⟨x, y, r, hst, k1, k2⟩ := qm_bin_spec k
    clear k
    subst hst
    exact lv_irem hx hb hd k1 (go k2 hP hS hl)
  case ishl =>
    have hnx : nx = pc + 1 := by simpa [qm_nl, qm_ln] using hn
    subst hnx
    obtain ⟨x, y, r, hst, k2⟩ := qm_bin_spec k
    clear k
    subst hst
    exact lv_ishl hx hb hd (go k2 hP hS hl)
  case ishr =>
    have hnx : nx = pc + 1 := by simpa [qm_nl, qm_ln] using hn
    subst hnx
    obtain ⟨x, y, r, hst, k2⟩ := qm_bin_spec k
    clear k
    subst hst
    exact lv_ishr hx hb hd (go k2 hP hS hl)
  case iushr =>
    have hnx : nx = pc + 1 := by simpa [qm_nl, qm_ln] using hn
    subst hnx
    obtain ⟨x, y, r, hst, k2⟩ := qm_bin_spec k
    clear k
    subst hst
    exact lv_iushr hx hb hd rfl (go k2 hP hS hl)
  case ladd =>
    have hnx : nx = pc + 1 := by simpa [qm_nl, qm_ln] using hn
    subst hnx
    obtain ⟨x, y, r, hst, k2⟩ := qm_bil_spec k
    clear k
    subst hst
    exact lv_ladd hx hb hd (go k2 hP hS hl)
  case lsub =>
    have hnx : nx = pc + 1 := by simpa [qm_nl, qm_ln] using hn
    subst hnx
    obtain ⟨x, y, r, hst, k2⟩ := qm_bil_spec k
    clear k
    subst hst
    exact lv_lsub hx hb hd (go k2 hP hS hl)
  case lmul =>
    have hnx : nx = pc + 1 := by simpa [qm_nl, qm_ln] using hn
    subst hnx
    obtain ⟨x, y, r, hst, k2⟩ := qm_bil_spec k
    clear k
    subst hst
    exact lv_lmul hx hb hd (go k2 hP hS hl)
  case ldiv =>
    have hnx : nx = pc + 1 := by simpa [qm_nl, qm_ln] using hn
    subst hnx
    obtain ⟨x, y, r, hst, k1, k2⟩ := qm_bil_spec k
    clear k
    subst hst
    exact lv_ldiv hx hb hd k1 (go k2 hP hS hl)
  case lrem =>
    have hnx : nx = pc + 1 := by simpa [qm_nl, qm_ln] using hn
    subst hnx
    obtain ⟨x, y, r, hst, k1, k2⟩ := qm_bil_spec k
    clear k
    subst hst
    exact lv_lrem hx hb hd k1 (go k2 hP hS hl)
  case lcmp =>
    have hnx : nx = pc + 1 := by simpa [qm_nl, qm_ln] using hn
    subst hnx
    obtain ⟨x, y, r, hst, k2⟩ := qm_bil_spec k
    clear k
    subst hst
    exact W.lcmp hx hb hd (go k2 hP hS hl)
  case i2l =>
    have hnx : nx = pc + 1 := by simpa [qm_nl, qm_ln] using hn
    subst hnx
    obtain ⟨x, r, hst, k2⟩ := qm_one_spec k
    clear k
    subst hst
    exact lv_i2l hx hb hd rfl (go k2 hP hS hl)
  case i2b =>
    have hnx : nx = pc + 1 := by simpa [qm_nl, qm_ln] using hn
    subst hnx
    obtain ⟨x, r, hst, k2⟩ := qm_one_spec k
    clear k
    subst hst
    exact lv_i2b hx hb hd rfl (go k2 hP hS hl)
  case i2s =>
    have hnx : nx = pc + 1 := by simpa [qm_nl, qm_ln] using hn
    subst hnx
    obtain ⟨x, r, hst, k2⟩ := qm_one_spec k
    clear k
    subst hst
    exact lv_i2s hx hb hd rfl (go k2 hP hS hl)
  case i2c =>
    have hnx : nx = pc + 1 := by simpa [qm_nl, qm_ln] using hn
    subst hnx
    obtain ⟨x, r, hst, k2⟩ := qm_one_spec k
    clear k
    subst hst
    exact lv_i2c hx hb hd rfl (go k2 hP hS hl)
  case dup =>
    have hnx : nx = pc + 1 := by simpa [qm_nl, qm_ln] using hn
    subst hnx
    unfold qm_ins at k
    dsimp only at k
    split at k
    · exact lv_dup hx hb hd rfl (go k hP hS hl)
    · rename_i x r
      exact lv_dup hx hb hd (qm_cv_cat hz (.ref x)) (go k hP hS hl)
    · exact k.elim
  case dup2 =>
    have hnx : nx = pc + 1 := by simpa [qm_nl, qm_ln] using hn
    subst hnx
    unfold qm_ins at k
    dsimp only at k
    split at k
    · rename_i x y r
      exact lv_dup2_11 hx hb hd rfl (qm_cv_cat hz (.ref y)) (go k hP hS hl)
    · exact k.elim
  case pop =>
    have hnx : nx = pc + 1 := by simpa [qm_nl, qm_ln] using hn
    subst hnx
    obtain ⟨x, r, hst, k2⟩ := qm_one_spec k
    clear k
    subst hst
    exact lv_pop hx hb hd rfl (go k2 hP hS hl)
  case pop2 =>
    have hnx : nx = pc + 1 := by simpa [qm_nl, qm_ln] using hn
    subst hnx
    obtain ⟨x, r, hst, k2⟩ := qm_onl_spec k
    clear k
    subst hst
    exact lv_pop2_2 hx hb hd rfl (go k2 hP hS hl)
  case goto o =>
    have ht := of_decide_eq_true hk
    exact lv_goto hx hb hd ht (go k hP hS hl)
  case ifCond co o =>
    have ht := of_decide_eq_true hk
    have hnx : nx = pc + 3 := by simpa [qm_nl, qm_ln] using hn
    subst hnx
    obtain ⟨x, r, hst, k2⟩ := qm_one_spec k
    clear k
    subst hst
    cases co
    · exact lv_if_eq hx hb hd ht (fun hc => go (k2.1 hc) hP hS hl) (fun hc => go (k2.2 hc) hP hS hl)
    · exact lv_if_ne hx hb hd ht (fun hc => go (k2.1 hc) hP hS hl) (fun hc => go (k2.2 hc) hP hS hl)
    · exact lv_if_lt hx hb hd ht (fun hc => go (k2.1 (by rw [qm_lt, qm_i0] at hc; omega)) hP hS hl) (fun hc => go (k2.2 (by rw [qm_lt, qm_i0] at hc; omega)) hP hS hl)
    · exact lv_if_ge hx hb hd ht (fun hc => go (k2.1 (by rw [qm_le, qm_i0] at hc; omega)) hP hS hl) (fun hc => go (k2.2 (by rw [qm_le, qm_i0] at hc; omega)) hP hS hl)
    · exact lv_if_gt hx hb hd ht (fun hc => go (k2.1 (by rw [qm_lt, qm_i0] at hc; omega)) hP hS hl) (fun hc => go (k2.2 (by rw [qm_lt, qm_i0] at hc; omega)) hP hS hl)
    · exact lv_if_le hx hb hd ht (fun hc => go (k2.1 (by rw [qm_le, qm_i0] at hc; omega)) hP hS hl) (fun hc => go (k2.2 (by rw [qm_le, qm_i0] at hc; omega)) hP hS hl)
  case if_icmp co o =>
    have ht := of_decide_eq_true hk
    have hnx : nx = pc + 3 := by simpa [qm_nl, qm_ln] using hn
    subst hnx
    obtain ⟨x, y, r, hst, k2⟩ := qm_bin_spec k
    clear k
    subst hst
    cases co
    · exact lv_icmp_eq hx hb hd ht (fun hc => go (k2.1 hc) hP hS hl) (fun hc => go (k2.2 hc) hP hS hl)
    · exact lv_icmp_ne hx hb hd ht (fun hc => go (k2.1 hc) hP hS hl) (fun hc => go (k2.2 hc) hP hS hl)
    · exact lv_icmp_lt hx hb hd ht (fun hc => go (k2.1 (by rw [qm_lt] at hc; omega)) hP hS hl) (fun hc => go (k2.2 (by rw [qm_lt] at hc; omega)) hP hS hl)
    · exact lv_icmp_ge hx hb hd ht (fun hc => go (k2.1 (by rw [qm_le] at hc; omega)) hP hS hl) (fun hc => go (k2.2 (by rw [qm_le] at hc; omega)) hP hS hl)
    · exact lv_icmp_gt hx hb hd ht (fun hc => go (k2.1 (by rw [qm_lt] at hc; omega)) hP hS hl) (fun hc => go (k2.2 (by rw [qm_lt] at hc; omega)) hP hS hl)
    · exact lv_icmp_le hx hb hd ht (fun hc => go (k2.1 (by rw [qm_le] at hc; omega)) hP hS hl) (fun hc => go (k2.2 (by rw [qm_le] at hc; omega)) hP hS hl)
  case tableswitch d lo hi offs =>
    unfold qm_ck at hk
    simp only [Bool.and_eq_true, decide_eq_true_eq] at hk
    obtain ⟨⟨h1, h2⟩, h3⟩ := hk
    obtain ⟨x, r, hst, k2⟩ := qm_one_spec k
    clear k
    subst hst
    obtain ⟨g1, g2⟩ := qm_tgs_spec _ _ _ h3
    have hsz : offs.size = ts.length := by rw [← Array.length_toList]; exact g1
    rcases qm_sw_go k2 with ⟨q0, hq, e, k2, -⟩ | ⟨hno, k2⟩
    · obtain ⟨jj, hj⟩ := List.getElem?_of_mem hq
      obtain ⟨g3, o, g4, g5⟩ := g2 jj q0 hj
      have hlt : jj < ts.length := (List.getElem?_eq_some_iff.mp hj).1
      rw [← e] at g3
      refine lv_tableIn hx hb hd (by omega) (by omega) (off := o) ?_ g5 (go k2 hP hS hl)
      rw [show (x.toInt - lo).toNat = jj from by omega, ← Array.getElem?_toList]
      exact g4
    · refine lv_tableOut hx hb hd ?_ h1 (go k2 hP hS hl)
      rcases Int.lt_or_le x.toInt lo with h | h
      · exact Or.inl h
      · rcases Int.lt_or_le hi x.toInt with h' | h'
        · exact Or.inr h'
        · have hlt : (x.toInt - lo).toNat < ts.length := by omega
          obtain ⟨g3, -⟩ := g2 _ _ (List.getElem?_eq_getElem hlt)
          exact absurd (Int32.toInt_inj.mp (by rw [g3]; omega)) (hno _ (List.getElem_mem hlt))
  case lookupswitch d ps =>
    unfold qm_ck at hk
    simp only [Bool.and_eq_true, decide_eq_true_eq] at hk
    obtain ⟨⟨h1, h2⟩, h3⟩ := hk
    obtain ⟨x, r, hst, k2⟩ := qm_one_spec k
    clear k
    subst hst
    obtain ⟨tgt, g1, k2⟩ := qm_lks_spec h1 _ _ h3 k2
    exact lv_lookup hx hb hd h2 rfl g1 (go k2 hP hS hl)
  case getfield n =>
    have hnx : nx = pc + 3 := by simpa [qm_nl, qm_ln] using hn
    subst hnx
    obtain ⟨x, r, hst, k2⟩ := qm_onr_spec k
    clear k
    subst hst
    unfold qm_ck at hk
    dsimp only at hk
    split at k2
    · rename_i h7
      rw [if_pos h7] at hk
      unfold qm_sfl at k2
      split at k2
      · rename_i hx0
        simp only [Bool.or_eq_true, Bool.and_eq_true, decide_eq_true_eq] at hk
        have hS6 := hE.2.2.2.1.1.1 (x - 110) (qm_sub1 hx0).1
        dsimp only at hS6
        rw [(qm_sub1 hx0).2.1, (qm_sub1 hx0).2.2] at hS6
        rw [List.map_cons, qm_cv_ref (qm_ne2 hx0)]
        rcases hk with ⟨h1, h2⟩ | ⟨h1, h2⟩
        · subst h1
          rw [if_pos rfl] at k2
          refine vk_getf hx hb hS6.2.2.1 hS hown (hts _ (qm_has_mem h2)) (fun _ h => h) hd ?_
          have k' := go k2 hP hS hl
          rw [List.map_cons, qm_cv_ref (qm_ne3 hx0)] at k'
          exact k'
        · subst h1
          rw [if_neg (by decide), if_pos rfl] at k2
          exact vk_getf hx hb hS6.2.1 hS hown (hts _ (qm_has_mem h2)) (fun _ h => h) hd (go k2 hP hS hl)
      · exact k2.elim
    · rename_i h7
      rw [if_neg h7] at hk
      obtain ⟨rs, o, h1, h2, k2⟩ := qm_fld_spec k2
      unfold qm_fl at hk
      split at hk
      · rename_i C T N hc
        simp only [Bool.and_eq_true, decide_eq_true_eq] at hk
        have hlt := qm_sh_lt h1
        rw [List.map_cons, qm_cv_ref (qm_ne hlt)]
        refine va_get hx hb hts (qm_cls_in hc).1 hown hK hP x (qm_w_at h1) hc b hk.1 (hts _ (qm_has_mem hk.2)) (fun _ h => h) (qm_fs_at h2) hd ?_
        cases o with
        | none => exact go k2 hP hS hl
        | some t => exact go k2 hP hS hl
      · cases hk
  case putfield n =>
    have hnx : nx = pc + 3 := by simpa [qm_nl, qm_ln] using hn
    subst hnx
    obtain ⟨x, r0, hst, k2⟩ := qm_one_spec k
    clear k
    subst hst
    obtain ⟨y, r, hst, k3⟩ := qm_onr_spec k2
    clear k2
    subst hst
    obtain ⟨rs, h1, h2, h3, k2⟩ := qm_pfl_spec k3
    unfold qm_ck at hk
    rw [Bool.and_eq_true] at hk
    obtain ⟨hk, hk2⟩ := hk
    unfold qm_fl at hk
    unfold qm_fp at hk2
    split at hk
    · rename_i C T N hc
      rw [hc] at hk2
      simp only [Bool.and_eq_true, decide_eq_true_eq, Bool.not_eq_true'] at hk hk2
      have hlt := qm_sh_lt h1
      obtain ⟨hin, ty0, hty, hnm⟩ := qm_cls_in hc
      rw [List.map_cons, List.map_cons, qm_cv_ref (qm_ne hlt)]
      have hl2 : b < (qm_fs ad h y rs).length := by
        unfold qm_fs
        rw [List.length_mapIdx]
        exact (List.getElem?_eq_some_iff.mp h2).1
      have fin : ∀ ty : FieldType, parseFieldDescriptor (T b).2.2.1 = some ty → narrow ty (.int x) = .int x → fits ty (.int x) = true → W p l e R s m args below meth c H locs cells slots Qw (F0 m pc ls (qm_cv ad (.int x) :: .ref (ad.1 y) :: r.map (qm_cv ad))) := by
        intro ty e1 e2 e3
        refine va_put (v := .int x) hx hb hts hin ty0 hty hnm hown hK hP hD hS y (qm_w_at h1) hc b hk.1 (hts _ (qm_has_mem hk.2)) (fun _ h => h) hk2.1 e1 e2 e3 hl2 hd (fun H1 locs1 hP1 hD1 hS1 => ?_)
        rw [qm_w_fld h1 h2] at hP1
        exact go k2 hP1 hS1 hl
      cases hzz : qm_isz a b with
      | true =>
        rw [hzz] at hk2
        refine fin .boolean (by rw [hk2.2]; rfl) ?_ ?_
        · rcases h3 hzz with rfl | rfl <;> rfl
        · rcases h3 hzz with rfl | rfl <;> rfl
      | false =>
        rw [hzz] at hk2
        exact fin .int (by rw [hk2.2]; rfl) rfl rfl
    · cases hk
  case iaload =>
    have hnx : nx = pc + 1 := by simpa [qm_nl, qm_ln] using hn
    subst hnx
    obtain ⟨x, r0, hst, k2⟩ := qm_one_spec k
    clear k
    subst hst
    obtain ⟨y, r, hst, k3⟩ := qm_onr_spec k2
    clear k2
    subst hst
    rcases qm_ald_spec k3 with ⟨t', n, h1, h2, h3, k2⟩ | ⟨n, f, h1, h3, k2⟩
    · have ht : t' = 0 := by omega
      subst ht
      rw [List.map_cons, List.map_cons, qm_cv_ref (qm_ne (qm_sh_lt h1))]
      exact va_iald hx hb hK hP y 0 (qm_w_at h1) rfl (qm_in h3) hd (go k2 hP hS hl)
    · obtain ⟨g1, ⟨-, g2⟩ | ⟨g2, -⟩⟩ := qm_ca_spec hE h1
      · rw [List.map_cons, List.map_cons, qm_cv_ref g1]
        exact va_ti hx hb g2 hS (qm_in h3) rfl hd (go k2 hP hS hl)
      · cases g2
  case baload =>
    have hnx : nx = pc + 1 := by simpa [qm_nl, qm_ln] using hn
    subst hnx
    obtain ⟨x, r0, hst, k2⟩ := qm_one_spec k
    clear k
    subst hst
    obtain ⟨y, r, hst, k3⟩ := qm_onr_spec k2
    clear k2
    subst hst
    rcases qm_ald_spec k3 with ⟨t', n, h1, h2, h3, k2⟩ | ⟨n, f, h1, h3, k2⟩
    · rw [List.map_cons, List.map_cons, qm_cv_ref (qm_ne (qm_sh_lt h1))]
      rcases (by omega : t' = 1 ∨ t' = 2) with ht | ht
      · subst ht
        exact va_bald hx hb hK hP y 1 (qm_w_at h1) rfl (qm_in h3) hd (go k2 hP hS hl)
      · subst ht
        exact va_zald hx hb hK hP y 2 (qm_w_at h1) rfl (qm_in h3) hd (go k2 hP hS hl)
    · obtain ⟨g1, ⟨g2, -⟩ | ⟨-, g2⟩⟩ := qm_ca_spec hE h1
      · cases g2
      · rw [List.map_cons, List.map_cons, qm_cv_ref g1]
        exact va_tb hx hb g2 hS (qm_in h3) rfl hd (go k2 hP hS hl)
  case iastore =>
    have hnx : nx = pc + 1 := by simpa [qm_nl, qm_ln] using hn
    subst hnx
    obtain ⟨x, r0, hst, k2⟩ := qm_one_spec k
    clear k
    subst hst
    obtain ⟨ix, r1, hst, k3⟩ := qm_one_spec k2
    clear k2
    subst hst
    obtain ⟨y, r, hst, k2⟩ := qm_onr_spec k3
    clear k3
    subst hst
    obtain ⟨t', n, h1, h3, ⟨-, ht, k3⟩ | ⟨ht, -⟩ | ⟨ht, -⟩⟩ := qm_ast_spec k2
    · subst ht
      rw [List.map_cons, List.map_cons, List.map_cons, qm_cv_ref (qm_ne (qm_sh_lt h1))]
      refine va_iast hx hb hK hP hD hS y 0 (qm_w_at h1) rfl (qm_in h3) hd (fun H1 locs1 hP1 hD1 hS1 => ?_)
      rw [qm_w_arr h1] at hP1
      exact go k3 hP1 hS1 hl
    · cases ht
    · cases ht
  case bastore =>
    have hnx : nx = pc + 1 := by simpa [qm_nl, qm_ln] using hn
    subst hnx
    obtain ⟨x, r0, hst, k2⟩ := qm_one_spec k
    clear k
    subst hst
    obtain ⟨ix, r1, hst, k3⟩ := qm_one_spec k2
    clear k2
    subst hst
    obtain ⟨y, r, hst, k2⟩ := qm_onr_spec k3
    clear k3
    subst hst
    obtain ⟨t', n, h1, h3, ⟨ht, -⟩ | ⟨-, ht, k3⟩ | ⟨-, ht, k3⟩⟩ := qm_ast_spec k2
    · cases ht
    · subst ht
      rw [List.map_cons, List.map_cons, List.map_cons, qm_cv_ref (qm_ne (qm_sh_lt h1))]
      refine va_bast hx hb hK hP hD hS y 1 (qm_w_at h1) rfl (qm_in h3) hd (fun H1 locs1 hP1 hD1 hS1 => ?_)
      rw [qm_w_arr h1, vp_nar_byte] at hP1
      exact go k3 hP1 hS1 hl
    · subst ht
      rw [List.map_cons, List.map_cons, List.map_cons, qm_cv_ref (qm_ne (qm_sh_lt h1))]
      refine va_zast hx hb hK hP hD hS y 2 (qm_w_at h1) rfl (qm_in h3) hd (fun H1 locs1 hP1 hD1 hS1 => ?_)
      rw [qm_w_arr h1] at hP1
      exact go k3 hP1 hS1 hl
  case arraylength =>
    have hnx : nx = pc + 1 := by simpa [qm_nl, qm_ln] using hn
    subst hnx
    obtain ⟨y, r, hst, k2⟩ := qm_onr_spec k
    clear k
    subst hst
    rcases qm_len_spec k2 with ⟨t, n, h1, k3⟩ | ⟨t, n, f, h1, k3⟩
    · rw [List.map_cons, qm_cv_ref (qm_ne (qm_sh_lt h1))]
      rcases qm_sh_t3 h1 with rfl | rfl | rfl
      · exact va_alen hx hb hK hP y 0 (qm_w_at h1) rfl rfl hd (go k3 hP hS hl)
      · exact va_alen hx hb hK hP y 1 (qm_w_at h1) rfl rfl hd (go k3 hP hS hl)
      · exact va_alen hx hb hK hP y 2 (qm_w_at h1) rfl rfl hd (go k3 hP hS hl)
    · obtain ⟨g1, ⟨-, g2⟩ | ⟨-, g2⟩⟩ := qm_ca_spec hE h1
      · rw [List.map_cons, qm_cv_ref g1]
        exact va_tlen hx hb g2 hS rfl hd (go k3 hP hS hl)
      · rw [List.map_cons, qm_cv_ref g1]
        exact va_tlen hx hb g2 hS rfl hd (go k3 hP hS hl)
  case invokevirtual n =>
    have hnx : nx = pc + 3 := by simpa [qm_nl, qm_ln] using hn
    subst hnx
    unfold qm_ck at hk
    simp only [Bool.and_eq_true, decide_eq_true_eq] at hk
    obtain ⟨⟨hcl, hc9⟩, hlk⟩ := hk
    unfold qm_cl at hcl
    simp only [Bool.and_eq_true, decide_eq_true_eq, beq_iff_eq] at hcl
    obtain ⟨⟨⟨han, hbn⟩, hf1⟩, hf2⟩ := hcl
    unfold qm_ins at k
    dsimp only at k
    split at k
    · rename_i hcnd
      obtain ⟨hb1, hb2, hb3, hb4⟩ := hcnd
      obtain ⟨k9, k⟩ := k
      obtain ⟨⟨hcd, hini⟩, -, hinst, hy, -, -⟩ := qm_mw han k9
      obtain ⟨hi1, hi2, hi3⟩ := hinst hc9
      unfold qm_rcv at hb4
      split at hb4
      · rename_i rv hrv
        have hdec : st = st.take b ++ .ref rv :: st.drop (b + 1) := by
          have e1 := List.take_append_drop b st
          have e2 : st.drop b = .ref rv :: st.drop (b + 1) := by
            rw [List.drop_eq_getElem_cons hb1]
            rw [List.getElem?_eq_getElem hb1] at hrv
            rw [Option.some.inj hrv]
          rw [e2] at e1
          exact e1.symm
        have htake : st.take (b + 1) = st.take b ++ [.ref rv] := by
          rw [List.take_succ, hrv]
          rfl
        rw [htake, List.reverse_append] at k
        have hsz : qm_sz ([Value.ref rv] ++ (st.take b).reverse) ≤ qm_ml a := by
          have e1 : qm_sz ([Value.ref rv] ++ (st.take b).reverse) = ((st.take (b + 1)).map fun v => v.category).sum := by
            rw [htake]
            unfold qm_sz
            simp [List.sum_append, Nat.add_comm, List.map_reverse, List.sum_reverse]
          rw [e1]
          exact hb3
        have hF := qm_w_free hD hS hA
        have hrec : rv ≠ 140 ∧ ∃ cell : Cell, H[ad.1 rv]? = some cell ∧ cell.vm.isStatics = false ∧ s.vm.findClass (qm_y a).cls = some cell.cls := by
          split at hb4
          · rename_i c' rs hsh
            have hb5 : c' = qm_cls a := by simpa using hb4
            subst hb5
            refine ⟨qm_ne (qm_sh_lt hsh), ?_⟩
            rcases hi3 with ⟨g1, g2⟩ | ⟨g1, g2⟩
            · exfalso
              have g3 : qm_sh.all (fun c => match c with
                | .inl _ => true
                | .inr (ci, _) => decide (ci ≠ 7)) = true := by decide +kernel
              have g4 := List.all_eq_true.mp g3 _ (List.mem_of_getElem? hsh)
              exact (of_decide_eq_true g4) g1
            · cases hq : vwCl[qm_cls a]? with
              | none => rw [hq] at g2; cases g2
              | some qq =>
                rw [hq] at g2
                have g3 : qq.1 = (qm_y a).cls := by simpa using g2
                rw [← g3]
                exact va_recv hK hP hq (qm_w_at hsh)
          · cases hb4
          · simp only [Bool.and_eq_true, decide_eq_true_eq, beq_iff_eq] at hb4
            obtain ⟨g1, g2⟩ := hb4
            refine ⟨qm_ne2 g2, ?_⟩
            rcases hi3 with ⟨-, g3⟩ | ⟨g3, -⟩
            · rw [g3]
              have g4 : ∃ cell : Cell, H[ad.1 (110 + (rv - 110))]? = some cell ∧ cell.vm.isStatics = false ∧ s.vm.findClass "java/lang/String" = some cell.cls := vk_recv (adK := fun i => ad.1 (110 + i)) (i := rv - 110) hE.2.2.2.1.1 (qm_sub1 g2).1 hS
              rw [(qm_sub1 g2).2.1] at g4
              exact g4
            · exact absurd g1 g3
        obtain ⟨h140, hcell⟩ := hrec
        have hbl : (st.take b).length = b := by rw [List.length_take]; omega
        have hst' : st.map (qm_cv ad) = (((st.take b).reverse).map (qm_cv ad)).reverse ++ .ref (ad.1 rv) :: (st.drop (b + 1)).map (qm_cv ad) := by
          conv => lhs; rw [hdec]
          rw [List.map_append, List.map_cons, qm_cv_ref h140, List.map_reverse, List.reverse_reverse]
        have hargs : ([Value.ref rv] ++ (st.take b).reverse).map (qm_cv ad) = .ref (ad.1 rv) :: ((st.take b).reverse).map (qm_cv ad) := by
          show qm_cv ad (.ref rv) :: _ = _
          rw [qm_cv_ref h140]
          rfl
        have hMet := qm_met han k9 hsz k l D ca ad H.size
        have hrun := va_runV (e := e) (below := below) (meth := meth) (Ts := qm_tbl) (n := b) (C := (qm_y a).cls) (b := ad.1 rv) (As := ((st.take b).reverse).map (qm_cv ad)) (rest := (st.drop (b + 1)).map (qm_cv ad)) (g := F0 m pc ls (st.map (qm_cv ad))) (cells := cells) (slots := slots) (locs := locs) (H := H) ⟨hx, hb, hml, hown, hts⟩ hMet
          ⟨callB_of (ws' := qm_tbl) b hts (qm_goodW hcd) rfl rfl rfl (hts _ hini) (hts _ (qm_has_mem hlk)) ⟨hy.1, hy.2.1, by rw [hbn]; exact hy.2.2⟩ ⟨Nat.le_trans hf1 hfr, Nat.le_trans hf2 hlo⟩, hts _ hi1, hts _ hi2⟩
          ⟨qm_Pc_blind, hcell, fun U hU hW => by
            have := qm_Pc_go (as := [Value.ref rv] ++ (st.take b).reverse) hE hP hD hS hF U hU hW
            rw [hargs] at this
            exact this⟩ rfl (by rw [List.length_map, List.length_reverse, hbl]) hl.1 hst' (lv_room (by rw [qm_cat_cv hz]; exact hb2)) hd ⟨hcel, hslo⟩
        refine qm_behind hrun hS (fun q _ hq => hF q hq) hF (fun r h' H1 locs1 kq hP1 hS1 => ?_)
        have k' := go kq hP1 hS1 hl
        rw [List.map_append] at k'
        cases r with
        | none => exact k'
        | some w => exact k'
      · cases hb4
    · exact k.elim
  case invokestatic n =>
    have hnx : nx = pc + 3 := by simpa [qm_nl, qm_ln] using hn
    subst hnx
    unfold qm_ck at hk
    dsimp only at hk
    unfold qm_ins at k
    dsimp only at k
    split at k
    · rename_i h999
      rw [if_pos h999] at hk
      simp only [Bool.and_eq_true, decide_eq_true_eq] at hk
      obtain ⟨⟨hlk, hf1⟩, hf2⟩ := hk
      obtain ⟨n', dp, sp, d, s0, n0, n1, rest, hst, e0, e1, hr0, hbd, k2⟩ := qm_cpy_spec k
      clear k
      subst hst
      rw [List.map_cons, List.map_cons, List.map_cons, List.map_cons, List.map_cons, qm_cv_ref (qm_ne (qm_sh_lt e0)), qm_cv_ref (qm_ne (qm_sh_lt e1))]
      have nn : ∀ z : Int32, 0 ≤ z.toInt → ¬ z < 0 := fun z h0 h1 => by rw [qm_lt, qm_i0] at h1; omega
      have cl : ∀ z : Int32, z.toNatClampNeg = z.toInt.toNat := fun z => rfl
      refine va_copyi hx hb (hml.trans hl.1.symm) hown (hts _ (qm_has_mem hlk)) (hts (.native arraycopyName) (by decide +kernel)) (hts (.static arraycopyName) (by decide +kernel)) (hts (.initialized "java/lang/System") (by decide +kernel)) hK hP hD hS s0 d 0 0 (qm_w_at e0) (qm_w_at e1) rfl rfl rfl (nn _ hbd.1) (nn _ hbd.2.1) (nn _ hbd.2.2.1) (by rw [cl, cl]; omega) (by rw [cl, cl]; omega) (fun _ _ => rfl) (by omega) (by rw [qm_cat_cv hz, hr0]; exact Nat.le_trans (by decide) (Nat.le_trans hf2 hlo)) hd (fun H1 locs1 hP1 hD1 hS1 => ?_)
      rw [qm_w_arr e1] at hP1
      exact go k2 hP1 hS1 hl
    · rename_i h999
      rw [if_neg h999] at hk
      rw [Bool.and_eq_true, Bool.and_eq_true, decide_eq_true_eq] at hk
      obtain ⟨⟨hcl, hc9⟩, hlk⟩ := hk
      unfold qm_cl at hcl
      simp only [Bool.and_eq_true, decide_eq_true_eq, beq_iff_eq] at hcl
      obtain ⟨⟨⟨han, hbn⟩, hf1⟩, hf2⟩ := hcl
      split at k
      · rename_i hcnd
        obtain ⟨hb1, hb2, hb3⟩ := hcnd
        obtain ⟨k9, k⟩ := k
        obtain ⟨⟨hcd, hini⟩, hstat, -, hy, -, -⟩ := qm_mw han k9
        have hsz : qm_sz (st.take b).reverse ≤ qm_ml a := by
          have e1 : qm_sz (st.take b).reverse = ((st.take b).map fun v => v.category).sum := by
            unfold qm_sz
            simp [List.map_reverse, List.sum_reverse]
          rw [e1]
          exact hb3
        have hF := qm_w_free hD hS hA
        have hbl : (st.take b).length = b := by rw [List.length_take]; omega
        have hst' : st.map (qm_cv ad) = (((st.take b).reverse).map (qm_cv ad)).reverse ++ (st.drop b).map (qm_cv ad) := by
          conv => lhs; rw [← List.take_append_drop b st]
          rw [List.map_append, List.map_reverse, List.reverse_reverse]
        have hMet := qm_met han k9 hsz k l D ca ad H.size
        have hrun : va_Run p l e R s m args below meth c H locs cells slots 0 0 (F0 m pc ls (st.map (qm_cv ad))) ((st.drop b).map (qm_cv ad)) (qm_Qc D ca ad (fun r h' => qm_PA X mid (pc + 3) lv (r.toList ++ st.drop b) h' Q) (va_A (qm_w ad ca h) H.size) (((st.take b).reverse).map (qm_cv ad)).toArray) (va_A (qm_w ad ca h) H.size) := by
          split at hlk
          · simp only [Bool.and_eq_true, decide_eq_true_eq] at hlk
            obtain ⟨⟨g1, g2⟩, g3⟩ := hlk
            have hnest := hE.2.2.2.2.1
            rw [← g2, ← g3, ← g1] at hnest
            exact va_runSN (Ts := qm_tbl) (n := b) (As := ((st.take b).reverse).map (qm_cv ad)) (rest := (st.drop b).map (qm_cv ad)) (g := F0 m pc ls (st.map (qm_cv ad))) ⟨hx, hb, hml, hown, hts⟩ hMet
              ⟨va_cnB (ws' := qm_tbl) b hts (qm_goodW hcd) rfl rfl rfl hnest (hts _ hini) ⟨hy.1, hy.2.1, by rw [hbn]; exact hy.2.2⟩ ⟨Nat.le_trans hf1 hfr, Nat.le_trans hf2 hlo⟩, hts _ (hstat hc9), trivial⟩
              ⟨qm_Pc_blind, fun U hU hW => qm_Pc_go hE hP hD hS hF U hU hW⟩ rfl (by rw [List.length_map, List.length_reverse, hbl]) hl.1 hst' (lv_room (by rw [qm_cat_cv hz]; exact hb2)) hd ⟨hcel, hslo⟩
          · exact va_runS (Ts := qm_tbl) (n := b) (As := ((st.take b).reverse).map (qm_cv ad)) (rest := (st.drop b).map (qm_cv ad)) (g := F0 m pc ls (st.map (qm_cv ad))) ⟨hx, hb, hml, hown, hts⟩ hMet
              ⟨callB_of (ws' := qm_tbl) b hts (qm_goodW hcd) rfl rfl rfl (hts _ hini) (hts _ (qm_has_mem hlk)) ⟨hy.1, hy.2.1, by rw [hbn]; exact hy.2.2⟩ ⟨Nat.le_trans hf1 hfr, Nat.le_trans hf2 hlo⟩, hts _ (hstat hc9)⟩
              ⟨qm_Pc_blind, fun U hU hW => qm_Pc_go hE hP hD hS hF U hU hW⟩ rfl (by rw [List.length_map, List.length_reverse, hbl]) hl.1 hst' (lv_room (by rw [qm_cat_cv hz]; exact hb2)) hd ⟨hcel, hslo⟩
        refine qm_behind hrun hS (fun q _ hq => hF q hq) hF (fun r h' H1 locs1 kq hP1 hS1 => ?_)
        have k' := go kq hP1 hS1 hl
        rw [List.map_append] at k'
        cases r with
        | none => exact k'
        | some w => exact k'
      · exact k.elim
  case ireturn =>
    unfold qm_ins at k
    dsimp only at k
    split at k
    · rename_i x
      obtain ⟨⟨ty, g1, g2⟩, k⟩ := qm_retI_spec k
      exact hr pc ls H locs h (some (.int x)) ⟨hd, ty, g1, g2⟩ k hP hS
    · exact k.elim
  case lreturn =>
    have hv := of_decide_eq_true hk
    unfold qm_ins at k
    dsimp only at k
    split at k
    · rename_i x
      exact hr pc ls H locs h (some (.long x)) ⟨hd, hv⟩ k hP hS
    · exact k.elim
  case areturn =>
    unfold qm_ck at hk
    dsimp only at hk
    unfold qm_ins at k
    dsimp only at k
    split at k
    · rename_i x
      split at k
      · exact k.elim
      · rename_i h140
        split at hk
        · rename_i nm e
          exact hr pc ls H locs h (some (.ref x)) ⟨hd, ⟨nm, e⟩, h140⟩ k hP hS
        · cases hk
    · exact k.elim
  case return_ =>
    have hv := of_decide_eq_true hk
    unfold qm_ins at k
    dsimp only at k
    split at k
    · exact hr pc ls H locs h none ⟨hd, hv⟩ k hP hS
    · exact k.elim
  all_goals exact k.elim
end
section
/-! ===== stretches: what a method needs from a pc to the next cuts, by evaluation ===== -/
def qm_live (live : List Nat) (lv : qm_L) : qm_L := live.filterMap (fun k => (lv.lookup k).map (fun v => (k, v)))
def qm_seg (X : qm_X) (mid : Nat) (C : List qm_E) (rt : Option FieldType) (cuts : List (Nat × List Nat)) (Q : qm_Q) : Nat → Nat → qm_L → List Value → qm_H → Prop
  | 0, pc, lv, st, h => qm_PA X mid pc lv st h Q
  | n + 1, pc, lv, st, h => match qm_find C pc with
    | none => False
    | some I => qm_ins X rt qm_cls qm_ml I lv st h (fun pc' lv' st' h' => match cuts.lookup pc' with
      | some live => qm_PA X mid pc' (qm_live live lv') st' h' Q
      | none => qm_seg X mid C rt cuts Q n pc' lv' st' h') (fun m as P => if m = 239 then False else qm_PW X m as h P) Q
theorem qm_live_sub {live : List Nat} {lv : qm_L} : ∀ q ∈ qm_live live lv, q ∈ lv := by
  intro q hq
  obtain ⟨k, -, h⟩ := List.mem_filterMap.mp hq
  cases hc : lv.lookup k with
  | none => rw [hc] at h; cases h
  | some v =>
    rw [hc] at h
    cases h
    exact qm_lk hc
theorem qm_seg_ok {X : qm_X} {mid : Nat} {C : List qm_E} {rt : Option FieldType} {cuts : List (Nat × List Nat)} {Q : qm_Q} (hC : qm_code mid = C) (hrt : qm_ret mid = rt) : ∀ (n pc : Nat) (lv : qm_L) (st : List Value) (h : qm_H), qm_seg X mid C rt cuts Q n pc lv st h → qm_PA X mid pc lv st h Q := by
  intro n
  induction n with
  | zero => intro pc lv st h k; exact k
  | succ n ih =>
    intro pc lv st h k
    unfold qm_seg at k
    split at k
    · exact k.elim
    · rename_i I hI
      refine qm_step (I := I) (by unfold qm_at; rw [hC]; exact hI) ?_
      rw [hrt]
      refine qm_ins_mono (fun pc' lv' st' h' k' => ?_) (fun m as P P' hP k' => ?_) k
      · split at k'
        · exact qm_PA.fewer qm_live_sub k'
        · exact ih pc' lv' st' h' k'
      · split at k'
        · exact k'.elim
        · rename_i hne
          exact ⟨hne, qm_PA.mono hP k'⟩
end
section
/-! ===== numbers: what an Int32 operation is as an Int ===== -/
theorem ti_rng (a : Int32) : -2147483648 ≤ a.toInt ∧ a.toInt ≤ 2147483647 := by
  have h1 := Int32.le_toInt a
  have h2 := Int32.toInt_lt a
  constructor <;> omega
theorem ti_bm (x : Int) : (x.bmod 4294967296 = x ∧ -2147483648 ≤ x ∧ x ≤ 2147483647) ∨ (¬ (-2147483648 ≤ x ∧ x ≤ 2147483647)) := by
  by_cases h : -2147483648 ≤ x ∧ x ≤ 2147483647
  · left
    refine ⟨?_, h⟩
    unfold Int.bmod
    dsimp only
    split <;> omega
  · exact Or.inr h
theorem ti_add (a b : Int32) : (-2147483648 ≤ a.toInt + b.toInt ∧ a.toInt + b.toInt ≤ 2147483647) → (a + b).toInt = a.toInt + b.toInt := by
  intro h
  rw [Int32.toInt_add]
  rcases ti_bm (a.toInt + b.toInt) with h1 | h1
  · exact h1.1
  · exact absurd h h1
theorem ti_sub (a b : Int32) : (-2147483648 ≤ a.toInt - b.toInt ∧ a.toInt - b.toInt ≤ 2147483647) → (a - b).toInt = a.toInt - b.toInt := by
  intro h
  rw [Int32.toInt_sub]
  rcases ti_bm (a.toInt - b.toInt) with h1 | h1
  · exact h1.1
  · exact absurd h h1
theorem ti_mulL (k : Int32) (kz : Int) (hk : k.toInt = kz) (b : Int32) : (-2147483648 ≤ kz * b.toInt ∧ kz * b.toInt ≤ 2147483647) → (k * b).toInt = kz * b.toInt := by
  intro h
  rw [Int32.toInt_mul, hk]
  rcases ti_bm (kz * b.toInt) with h1 | h1
  · exact h1.1
  · exact absurd h h1
theorem ti_mulR (k : Int32) (kz : Int) (hk : k.toInt = kz) (b : Int32) : (-2147483648 ≤ kz * b.toInt ∧ kz * b.toInt ≤ 2147483647) → (b * k).toInt = kz * b.toInt := by
  intro h
  rw [Int32.toInt_mul, hk, Int.mul_comm b.toInt kz]
  rcases ti_bm (kz * b.toInt) with h1 | h1
  · exact h1.1
  · exact absurd h h1
theorem ti_div (k : Int32) (kz : Int) (hk : k.toInt = kz) (a : Int32) (h0 : 0 < kz) : 0 ≤ a.toInt → (a / k).toInt = a.toInt / kz := by
  intro h
  obtain ⟨n, hn, e⟩ := nI_of (x := a) (by rw [Int32.lt_iff_toInt_lt]; show ¬ a.toInt < 0; omega)
  have hk2 : ¬ k < 0 := by rw [Int32.lt_iff_toInt_lt]; show ¬ k.toInt < 0; omega
  obtain ⟨d, hd, e2⟩ := nI_of (x := k) hk2
  subst e; subst e2
  rw [nI_toInt hd] at hk
  have hd0 : 0 < d := by omega
  rw [pk_div hn hd0 hd, nI_toInt (Nat.lt_of_le_of_lt (Nat.div_le_self n d) hn), nI_toInt hn, ← hk]
  exact Int.natCast_ediv n d
theorem ti_rem (k : Int32) (kz : Int) (hk : k.toInt = kz) (a : Int32) (h0 : 0 < kz) : 0 ≤ a.toInt → (a - a / k * k).toInt = a.toInt % kz := by
  intro h
  obtain ⟨n, hn, e⟩ := nI_of (x := a) (by rw [Int32.lt_iff_toInt_lt]; show ¬ a.toInt < 0; omega)
  have hk2 : ¬ k < 0 := by rw [Int32.lt_iff_toInt_lt]; show ¬ k.toInt < 0; omega
  obtain ⟨d, hd, e2⟩ := nI_of (x := k) hk2
  subst e; subst e2
  rw [nI_toInt hd] at hk
  have hd0 : 0 < d := by omega
  rw [pk_rem hn hd0 hd, nI_toInt (Nat.lt_of_le_of_lt (Nat.mod_le n d) hn), nI_toInt hn, ← hk]
  exact Int.natCast_emod n d
/-- what a Memory's numbers are held to: CLERKS, THREADS, SEEN -/
def mq (b : Nat) (h : qm_H) : Prop := (0 ≤ (h b 6).toInt ∧ (h b 6).toInt ≤ 4) ∧ (0 ≤ (h b 7).toInt ∧ (h b 7).toInt ≤ 10) ∧ (0 ≤ (h b 9).toInt ∧ (h b 9).toInt ≤ 6)
/-- no SHEET has more than 40 CELLS -/
def sq (h : qm_H) : Prop := ∀ j : Nat, (h 37 j).toInt ≤ 40
theorem i2c_rng (z : Int32) : 0 ≤ (z.toUInt32 % 65536).toInt32.toInt ∧ (z.toUInt32 % 65536).toInt32.toInt < 65536 := by
  rw [pk_char, nI_toInt (by omega)]
  omega
theorem rings_le (j : Nat) : 0 ≤ (qm_rings.getD j 0).toInt ∧ (qm_rings.getD j 0).toInt ≤ 4 := by
  have h1 : qm_rings.all (fun x => decide (0 ≤ x.toInt ∧ x.toInt ≤ 4)) = true := by decide +kernel
  by_cases hj : j < qm_rings.length
  · have h2 := List.all_eq_true.mp h1 (qm_rings.getD j 0) (by rw [List.getD_eq_getElem?_getD, List.getElem?_eq_getElem hj]; exact List.getElem_mem hj)
    exact of_decide_eq_true h2
  · rw [List.getD_eq_getElem?_getD, List.getElem?_eq_none (by omega)]
    decide
theorem bits_le (t : Int32) (h0 : 0 ≤ t.toInt) (h1 : t.toInt ≤ 10) : 0 ≤ ((1 <<< (t &&& 31)) - 1 : Int32).toInt ∧ ((1 <<< (t &&& 31)) - 1 : Int32).toInt ≤ 1023 := by
  obtain ⟨k, hk, e⟩ := nI_of (x := t) (by rw [Int32.lt_iff_toInt_lt]; show ¬ t.toInt < 0; omega)
  subst e
  rw [nI_toInt hk] at h1
  have h2 : k = 0 ∨ k = 1 ∨ k = 2 ∨ k = 3 ∨ k = 4 ∨ k = 5 ∨ k = 6 ∨ k = 7 ∨ k = 8 ∨ k = 9 ∨ k = 10 := by omega
  rcases h2 with rfl | rfl | rfl | rfl | rfl | rfl | rfl | rfl | rfl | rfl | rfl <;> decide
theorem sh_le (t : Int32) (h0 : 0 ≤ t.toInt) (h1 : t.toInt ≤ 4) : 1 ≤ (1 <<< (t &&& 31) : Int32).toInt ∧ (1 <<< (t &&& 31) : Int32).toInt ≤ 16 := by
  obtain ⟨k, hk, e⟩ := nI_of (x := t) (by rw [Int32.lt_iff_toInt_lt]; show ¬ t.toInt < 0; omega)
  subst e
  rw [nI_toInt hk] at h1
  have h2 : k = 0 ∨ k = 1 ∨ k = 2 ∨ k = 3 ∨ k = 4 := by omega
  rcases h2 with rfl | rfl | rfl | rfl | rfl <;> decide
theorem lg_ne {x : Int64} (h : ¬ lg_cmp x 0 = 0) : ¬ x = 0 := by
  intro e
  subst e
  exact h (by simp [lg_cmp])
theorem ti_n1 : (-1 : Int32).toInt = -1 := by decide
theorem ti_n2 : (-2 : Int32).toInt = -2 := by decide
theorem ti_n3 : (-3 : Int32).toInt = -3 := by decide
theorem ti_n4 : (-4 : Int32).toInt = -4 := by decide
theorem ti_n10 : (-10 : Int32).toInt = -10 := by decide
theorem ti_n20 : (-20 : Int32).toInt = -20 := by decide
theorem ti_addK (a k : Int32) (kz : Int) (hk : k.toInt = kz) : (-2147483648 ≤ a.toInt + kz ∧ a.toInt + kz ≤ 2147483647) → (a + k).toInt = a.toInt + kz := by
  subst hk; exact ti_add a k
theorem ti_addL (a k : Int32) (kz : Int) (hk : k.toInt = kz) : (-2147483648 ≤ kz + a.toInt ∧ kz + a.toInt ≤ 2147483647) → (k + a).toInt = kz + a.toInt := by
  subst hk; exact ti_add k a
theorem ti_subK (a k : Int32) (kz : Int) (hk : k.toInt = kz) : (-2147483648 ≤ a.toInt - kz ∧ a.toInt - kz ≤ 2147483647) → (a - k).toInt = a.toInt - kz := by
  subst hk; exact ti_sub a k
theorem ti_subL (a k : Int32) (kz : Int) (hk : k.toInt = kz) : (-2147483648 ≤ kz - a.toInt ∧ kz - a.toInt ≤ 2147483647) → (k - a).toInt = kz - a.toInt := by
  subst hk; exact ti_sub k a
theorem i64 (x : Int32) : x.toInt64.toInt = x.toInt := Int32.toInt_toInt64 x
theorem lg_cmp_i (x y : Int64) : ((lg_cmp x y).toInt < 0 ↔ x.toInt < y.toInt) ∧ (0 < (lg_cmp x y).toInt ↔ y.toInt < x.toInt) := by
  by_cases h1 : y < x
  · have e : lg_cmp x y = 1 := by simp [lg_cmp, h1]
    rw [e]
    rw [Int64.lt_iff_toInt_lt] at h1
    constructor
    · constructor
      · intro h; exact absurd h (by decide)
      · intro h; omega
    · constructor
      · intro _; exact h1
      · intro _; decide
  · by_cases h2 : x = y
    · subst h2
      have e : lg_cmp x x = 0 := by simp [lg_cmp]
      rw [e]
      constructor
      · constructor
        · intro h; exact absurd h (by decide)
        · intro h; omega
      · constructor
        · intro h; exact absurd h (by decide)
        · intro h; omega
    · have e : lg_cmp x y = -1 := by simp [lg_cmp, h1, h2]
      rw [e, ti_n1]
      rw [Int64.lt_iff_toInt_lt] at h1
      have h3 : x.toInt ≠ y.toInt := fun q => h2 (Int64.toInt_inj.mp q)
      constructor <;> omega
end
section
-- ThreadBank$Memory.isPlace(II)Z
set_option maxRecDepth 100000 in
set_option maxHeartbeats 4000000 in
theorem sf_24 (X : qm_X) (h : qm_H) (a : Int32) (b : Int32) (hp : True) (Q : qm_Q) (hq : ∀ r : Int32, (r = 0 ∨ r = 1) → Q (some (.int r)) h) : qm_PW X 24 [.int a, .int b] h Q := by
  refine qm_seg_ok (C := qc_24) (rt := some .boolean) rfl rfl (cuts := []) 400 _ _ _ _ ?_
  show (a.toInt < 0 → (((0 : Int32) = 0 ∨ (0 : Int32) = 1) ∧ Q (some (.int 0)) h)) ∧ (0 ≤ a.toInt → (¬ (10 : Int32) = 0 ∧ ((b.toInt ≤ (a / 10).toInt → (((0 : Int32) = 0 ∨ (0 : Int32) = 1) ∧ Q (some (.int 0)) h)) ∧ ((a / 10).toInt < b.toInt → (¬ (10 : Int32) = 0 ∧ ((5 ≤ (a - a / 10 * 10).toInt → (((0 : Int32) = 0 ∨ (0 : Int32) = 1) ∧ Q (some (.int 0)) h)) ∧ ((a - a / 10 * 10).toInt < 5 → (((1 : Int32) = 0 ∨ (1 : Int32) = 1) ∧ Q (some (.int 1)) h))))))))
  refine ⟨fun c1 => ?_, fun c2 => ?_⟩
  · exact ⟨Or.inl rfl, hq 0 (Or.inl rfl)⟩
  · refine ⟨by decide, ?_⟩
    refine ⟨fun c3 => ?_, fun c4 => ?_⟩
    · exact ⟨Or.inl rfl, hq 0 (Or.inl rfl)⟩
    · refine ⟨by decide, ?_⟩
      refine ⟨fun c5 => ?_, fun c6 => ?_⟩
      · exact ⟨Or.inl rfl, hq 0 (Or.inl rfl)⟩
      · exact ⟨Or.inr rfl, hq 1 (Or.inr rfl)⟩
-- ThreadBank$Memory.isPair(II)Z
set_option maxRecDepth 100000 in
set_option maxHeartbeats 4000000 in
theorem sf_25 (X : qm_X) (h : qm_H) (a : Int32) (b : Int32) (hp : True) (Q : qm_Q) (hq : ∀ r : Int32, (r = 0 ∨ r = 1) → Q (some (.int r)) h) : qm_PW X 25 [.int a, .int b] h Q := by
  refine qm_seg_ok (C := qc_25) (rt := some .boolean) rfl rfl (cuts := []) 400 _ _ _ _ ?_
  show ¬ (10 : Int32) = 0 ∧ (¬ (10 : Int32) = 0 ∧ ((a.toInt < 0 → (((0 : Int32) = 0 ∨ (0 : Int32) = 1) ∧ Q (some (.int 0)) h)) ∧ (0 ≤ a.toInt → ((b.toInt ≤ (a / 10).toInt → (((0 : Int32) = 0 ∨ (0 : Int32) = 1) ∧ Q (some (.int 0)) h)) ∧ ((a / 10).toInt < b.toInt → ((b.toInt ≤ (a - a / 10 * 10).toInt → (((0 : Int32) = 0 ∨ (0 : Int32) = 1) ∧ Q (some (.int 0)) h)) ∧ ((a - a / 10 * 10).toInt < b.toInt → (((a / 10) = (a - a / 10 * 10) → (((0 : Int32) = 0 ∨ (0 : Int32) = 1) ∧ Q (some (.int 0)) h)) ∧ (¬ (a / 10) = (a - a / 10 * 10) → (((1 : Int32) = 0 ∨ (1 : Int32) = 1) ∧ Q (some (.int 1)) h))))))))))
  refine ⟨by decide, ?_⟩
  refine ⟨by decide, ?_⟩
  refine ⟨fun c1 => ?_, fun c2 => ?_⟩
  · exact ⟨Or.inl rfl, hq 0 (Or.inl rfl)⟩
  · refine ⟨fun c3 => ?_, fun c4 => ?_⟩
    · exact ⟨Or.inl rfl, hq 0 (Or.inl rfl)⟩
    · refine ⟨fun c5 => ?_, fun c6 => ?_⟩
      · exact ⟨Or.inl rfl, hq 0 (Or.inl rfl)⟩
      · refine ⟨fun c7 => ?_, fun c8 => ?_⟩
        · exact ⟨Or.inl rfl, hq 0 (Or.inl rfl)⟩
        · exact ⟨Or.inr rfl, hq 1 (Or.inr rfl)⟩
-- ThreadBank$Memory.isKnot(I)Z
set_option maxRecDepth 100000 in
set_option maxHeartbeats 4000000 in
theorem sf_26 (X : qm_X) (h : qm_H) (a : Int32) (hp : True) (Q : qm_Q) (hq : ∀ r : Int32, (r = 0 ∨ r = 1) → Q (some (.int r)) h) : qm_PW X 26 [.int a] h Q := by
  refine qm_seg_ok (C := qc_26) (rt := some .boolean) rfl rfl (cuts := []) 400 _ _ _ _ ?_
  show (a.toInt < 10 → (((0 : Int32) = 0 ∨ (0 : Int32) = 1) ∧ Q (some (.int 0)) h)) ∧ (10 ≤ a.toInt → ((99 < a.toInt → (((0 : Int32) = 0 ∨ (0 : Int32) = 1) ∧ Q (some (.int 0)) h)) ∧ (a.toInt ≤ 99 → (((1 : Int32) = 0 ∨ (1 : Int32) = 1) ∧ Q (some (.int 1)) h))))
  refine ⟨fun c1 => ?_, fun c2 => ?_⟩
  · exact ⟨Or.inl rfl, hq 0 (Or.inl rfl)⟩
  · refine ⟨fun c3 => ?_, fun c4 => ?_⟩
    · exact ⟨Or.inl rfl, hq 0 (Or.inl rfl)⟩
    · exact ⟨Or.inr rfl, hq 1 (Or.inr rfl)⟩
-- ThreadBank$Memory.roomOf(II)I
set_option maxRecDepth 100000 in
set_option maxHeartbeats 4000000 in
theorem sf_27 (X : qm_X) (h : qm_H) (a : Int32) (b : Int32) (hp : True) (Q : qm_Q) (hq : ∀ r : Int32, (True) → Q (some (.int r)) h) : qm_PW X 27 [.int a, .int b] h Q := by
  refine qm_seg_ok (C := qc_27) (rt := some .int) rfl rfl (cuts := []) 400 _ _ _ _ ?_
  show (a.toInt < 0 → (Q (some (.int 0)) h)) ∧ (0 ≤ a.toInt → ((4 ≤ a.toInt → (Q (some (.int 0)) h)) ∧ (a.toInt < 4 → ((b.toInt < 0 → (Q (some (.int 0)) h)) ∧ (0 ≤ b.toInt → ((b.toInt < 5 → ((0 ≤ ((5 * a) + b).toInt ∧ ((5 * a) + b).toInt < 20) ∧ (Q (some (.int (qm_rooms.getD ((5 * a) + b).toInt.toNat 0))) h))) ∧ (5 ≤ b.toInt → (Q (some (.int 0)) h))))))))
  refine ⟨fun c1 => ?_, fun c2 => ?_⟩
  · exact hq 0 trivial
  · refine ⟨fun c3 => ?_, fun c4 => ?_⟩
    · exact hq 0 trivial
    · refine ⟨fun c5 => ?_, fun c6 => ?_⟩
      · exact hq 0 trivial
      · refine ⟨fun c7 => ?_, fun c8 => ?_⟩
        · refine ⟨(by have := ti_mulL (5 : Int32) 5 rfl a; have := ti_add (5 * a) b; omega), ?_⟩
          exact hq (qm_rooms.getD ((5 * a) + b).toInt.toNat 0) trivial
        · exact hq 0 trivial
-- ThreadBank$Memory.hasClerk(I)Z
set_option maxRecDepth 100000 in
set_option maxHeartbeats 4000000 in
theorem sf_28_1 (X : qm_X) (h : qm_H) (a : Int32) (hp : True) (Q : qm_Q) (hq : ∀ r : Int32, ((r = 0 ∨ r = 1) ∧ (¬ r = 0 → 0 ≤ a.toInt ∧ a.toInt < (h 1 6).toInt)) → Q (some (.int r)) h) : qm_PW X 28 [.ref 1, .int a] h Q := by
  refine qm_seg_ok (C := qc_28) (rt := some .boolean) rfl rfl (cuts := []) 400 _ _ _ _ ?_
  show (a.toInt < 0 → (((0 : Int32) = 0 ∨ (0 : Int32) = 1) ∧ Q (some (.int 0)) h)) ∧ (0 ≤ a.toInt → (((h 1 6).toInt ≤ a.toInt → (((0 : Int32) = 0 ∨ (0 : Int32) = 1) ∧ Q (some (.int 0)) h)) ∧ (a.toInt < (h 1 6).toInt → (((1 : Int32) = 0 ∨ (1 : Int32) = 1) ∧ Q (some (.int 1)) h))))
  refine ⟨fun c1 => ?_, fun c2 => ?_⟩
  · exact ⟨Or.inl rfl, hq 0 (by first | omega | exact ⟨Or.inl rfl, fun hc => absurd rfl hc⟩ | exact ⟨Or.inr rfl, fun hc => absurd hc (by decide)⟩ | (refine ⟨Or.inr rfl, fun _ => ?_⟩; omega) | (refine ⟨Or.inl rfl, fun _ => ?_⟩; omega) | (simp; done))⟩
  · refine ⟨fun c3 => ?_, fun c4 => ?_⟩
    · exact ⟨Or.inl rfl, hq 0 (by first | omega | exact ⟨Or.inl rfl, fun hc => absurd rfl hc⟩ | exact ⟨Or.inr rfl, fun hc => absurd hc (by decide)⟩ | (refine ⟨Or.inr rfl, fun _ => ?_⟩; omega) | (refine ⟨Or.inl rfl, fun _ => ?_⟩; omega) | (simp; done))⟩
    · exact ⟨Or.inr rfl, hq 1 (by first | omega | exact ⟨Or.inl rfl, fun hc => absurd rfl hc⟩ | exact ⟨Or.inr rfl, fun hc => absurd hc (by decide)⟩ | (refine ⟨Or.inr rfl, fun _ => ?_⟩; omega) | (refine ⟨Or.inl rfl, fun _ => ?_⟩; omega) | (simp; done))⟩
-- ThreadBank$Memory.hasThread(I)Z
set_option maxRecDepth 100000 in
set_option maxHeartbeats 4000000 in
theorem sf_29_1 (X : qm_X) (h : qm_H) (a : Int32) (hp : True) (Q : qm_Q) (hq : ∀ r : Int32, ((r = 0 ∨ r = 1) ∧ (¬ r = 0 → 0 ≤ a.toInt ∧ a.toInt < (h 1 7).toInt)) → Q (some (.int r)) h) : qm_PW X 29 [.ref 1, .int a] h Q := by
  refine qm_seg_ok (C := qc_29) (rt := some .boolean) rfl rfl (cuts := []) 400 _ _ _ _ ?_
  show (a.toInt < 0 → (((0 : Int32) = 0 ∨ (0 : Int32) = 1) ∧ Q (some (.int 0)) h)) ∧ (0 ≤ a.toInt → (((h 1 7).toInt ≤ a.toInt → (((0 : Int32) = 0 ∨ (0 : Int32) = 1) ∧ Q (some (.int 0)) h)) ∧ (a.toInt < (h 1 7).toInt → (((1 : Int32) = 0 ∨ (1 : Int32) = 1) ∧ Q (some (.int 1)) h))))
  refine ⟨fun c1 => ?_, fun c2 => ?_⟩
  · exact ⟨Or.inl rfl, hq 0 (by first | omega | exact ⟨Or.inl rfl, fun hc => absurd rfl hc⟩ | exact ⟨Or.inr rfl, fun hc => absurd hc (by decide)⟩ | (refine ⟨Or.inr rfl, fun _ => ?_⟩; omega) | (refine ⟨Or.inl rfl, fun _ => ?_⟩; omega) | (simp; done))⟩
  · refine ⟨fun c3 => ?_, fun c4 => ?_⟩
    · exact ⟨Or.inl rfl, hq 0 (by first | omega | exact ⟨Or.inl rfl, fun hc => absurd rfl hc⟩ | exact ⟨Or.inr rfl, fun hc => absurd hc (by decide)⟩ | (refine ⟨Or.inr rfl, fun _ => ?_⟩; omega) | (refine ⟨Or.inl rfl, fun _ => ?_⟩; omega) | (simp; done))⟩
    · exact ⟨Or.inr rfl, hq 1 (by first | omega | exact ⟨Or.inl rfl, fun hc => absurd rfl hc⟩ | exact ⟨Or.inr rfl, fun hc => absurd hc (by decide)⟩ | (refine ⟨Or.inr rfl, fun _ => ?_⟩; omega) | (refine ⟨Or.inl rfl, fun _ => ?_⟩; omega) | (simp; done))⟩
-- ThreadBank$Memory.hasPlace(I)Z
set_option maxRecDepth 100000 in
set_option maxHeartbeats 4000000 in
theorem sf_30_1 (X : qm_X) (h : qm_H) (a : Int32) (hp : True) (Q : qm_Q) (hq : ∀ r : Int32, (r = 0 ∨ r = 1) → Q (some (.int r)) h) : qm_PW X 30 [.ref 1, .int a] h Q := by
  refine qm_seg_ok (C := qc_30) (rt := some .boolean) rfl rfl (cuts := []) 400 _ _ _ _ ?_
  show qm_PW X 24 [.int a, .int (h 1 6)] h _
  refine sf_24 X h a (h 1 6) trivial _ (fun r1 p2 => ?_)
  show (r1 = 0 ∨ r1 = 1) ∧ Q (some (.int r1)) h
  exact ⟨p2, hq r1 p2⟩
-- ThreadBank$Memory.hasPair(I)Z
set_option maxRecDepth 100000 in
set_option maxHeartbeats 4000000 in
theorem sf_31_1 (X : qm_X) (h : qm_H) (a : Int32) (hp : True) (Q : qm_Q) (hq : ∀ r : Int32, (r = 0 ∨ r = 1) → Q (some (.int r)) h) : qm_PW X 31 [.ref 1, .int a] h Q := by
  refine qm_seg_ok (C := qc_31) (rt := some .boolean) rfl rfl (cuts := []) 400 _ _ _ _ ?_
  show qm_PW X 25 [.int a, .int (h 1 6)] h _
  refine sf_25 X h a (h 1 6) trivial _ (fun r1 p2 => ?_)
  show (r1 = 0 ∨ r1 = 1) ∧ Q (some (.int r1)) h
  exact ⟨p2, hq r1 p2⟩
-- ThreadBank$Memory.kindOf(I)I
set_option maxRecDepth 100000 in
set_option maxHeartbeats 4000000 in
theorem sf_32_1 (X : qm_X) (h : qm_H) (a : Int32) (hp : mq 1 h) (Q : qm_Q) (hq : ∀ r : Int32, (True) → Q (some (.int r)) h) : qm_PW X 32 [.ref 1, .int a] h Q := by
  have hm1 : mq 1 h := hp
  have ⟨⟨_, _⟩, ⟨_, _⟩, _, _⟩ := hm1
  refine qm_seg_ok (C := qc_32) (rt := some .int) rfl rfl (cuts := []) 400 _ _ _ _ ?_
  show qm_PW X 28 [.ref 1, .int a] h _
  refine sf_28_1 X h a trivial _ (fun r1 p2 => ?_)
  show (r1 = 0 → (Q (some (.int (-4 : Int32))) h)) ∧ (¬ r1 = 0 → ((0 ≤ a.toInt ∧ a.toInt < 4) ∧ (Q (some (.int (h 2 a.toInt.toNat))) h)))
  refine ⟨fun c3 => ?_, fun c4 => ?_⟩
  · exact hq (-4 : Int32) trivial
  · have := p2.2 c4
    refine ⟨(by omega), ?_⟩
    exact hq (h 2 a.toInt.toNat) trivial
-- ThreadBank$Memory.threadsAt(I)I
set_option maxRecDepth 100000 in
set_option maxHeartbeats 4000000 in
theorem sf_35_1_c (X : qm_X) (h : qm_H) (a : Int32) (hp : mq 1 h) (Q : qm_Q) (hq : ∀ r : Int32, (True) → Q (some (.int r)) h) : ∀ n : Nat, (∀ (l2 : Int32) (l3 : Int32), (0 ≤ l3.toInt ∧ l3.toInt ≤ 10) → (10 - l3.toInt).toNat < n → qm_PA X 35 4 [(0, .ref 1), (1, .int a), (2, .int l2), (3, .int l3)] [] h Q) := by
  have hm1 : mq 1 h := hp
  have ⟨⟨_, _⟩, ⟨_, _⟩, _, _⟩ := hm1
  intro n
  induction n with
  | zero => exact fun _ _ _ h0 => absurd h0 (Nat.not_lt_zero _)
  | succ n ih =>
    intro l2 l3 hi hr
    have ti_l3 := ti_rng l3
    refine qm_seg_ok (C := qc_35) (rt := some .int) rfl rfl (cuts := [(4, [0, 1, 2, 3])]) 400 _ _ _ _ ?_
    show ((h 1 7).toInt ≤ l3.toInt → (Q (some (.int l2)) h)) ∧ (l3.toInt < (h 1 7).toInt → ((0 ≤ l3.toInt ∧ l3.toInt < 10) ∧ ((¬ (h 3 l3.toInt.toNat) = a → (qm_PA X 35 4 [(0, .ref 1), (1, .int a), (2, .int l2), (3, .int (l3 + 1))] [] h Q)) ∧ ((h 3 l3.toInt.toNat) = a → (qm_PA X 35 4 [(0, .ref 1), (1, .int a), (2, .int (l2 + 1)), (3, .int (l3 + 1))] [] h Q)))))
    refine ⟨fun c1 => ?_, fun c2 => ?_⟩
    · exact hq l2 trivial
    · refine ⟨(by omega), ?_⟩
      refine ⟨fun c3 => ?_, fun c4 => ?_⟩
      · exact ih l2 (l3 + 1) (by have := ti_addK l3 (1 : Int32) 1 rfl; omega) (by have := ti_addK l3 (1 : Int32) 1 rfl; omega)
      · exact ih (l2 + 1) (l3 + 1) (by have := ti_addK l3 (1 : Int32) 1 rfl; omega) (by have := ti_addK l3 (1 : Int32) 1 rfl; omega)
set_option maxRecDepth 100000 in
set_option maxHeartbeats 4000000 in
theorem sf_35_1 (X : qm_X) (h : qm_H) (a : Int32) (hp : mq 1 h) (Q : qm_Q) (hq : ∀ r : Int32, (True) → Q (some (.int r)) h) : qm_PW X 35 [.ref 1, .int a] h Q := by
  have hm1 : mq 1 h := hp
  have ⟨⟨_, _⟩, ⟨_, _⟩, _, _⟩ := hm1
  refine qm_seg_ok (C := qc_35) (rt := some .int) rfl rfl (cuts := [(4, [0, 1, 2, 3])]) 400 _ _ _ _ ?_
  show qm_PA X 35 4 [(0, .ref 1), (1, .int a), (2, .int 0), (3, .int 0)] [] h Q
  exact (sf_35_1_c X h a hp Q hq _) (0 : Int32) (0 : Int32) (by have : (0 : Int32).toInt = 0 := rfl; omega) (Nat.lt_succ_self _)
-- ThreadBank$Memory.roomAt(I)I
set_option maxRecDepth 100000 in
set_option maxHeartbeats 4000000 in
theorem sf_37_1 (X : qm_X) (h : qm_H) (a : Int32) (hp : mq 1 h) (Q : qm_Q) (hq : ∀ r : Int32, (True) → Q (some (.int r)) h) : qm_PW X 37 [.ref 1, .int a] h Q := by
  have hm1 : mq 1 h := hp
  have ⟨⟨_, _⟩, ⟨_, _⟩, _, _⟩ := hm1
  refine qm_seg_ok (C := qc_37) (rt := some .int) rfl rfl (cuts := []) 400 _ _ _ _ ?_
  show qm_PW X 30 [.ref 1, .int a] h _
  refine sf_30_1 X h a trivial _ (fun r1 p2 => ?_)
  show (r1 = 0 → (Q (some (.int 0)) h)) ∧ (¬ r1 = 0 → (¬ (10 : Int32) = 0 ∧ (qm_PW X 32 [.ref 1, .int (a / 10)] h _)))
  refine ⟨fun c3 => ?_, fun c4 => ?_⟩
  · exact hq 0 trivial
  · refine ⟨by decide, ?_⟩
    refine sf_32_1 X h (a / 10) hm1 _ (fun r5 p6 => ?_)
    show ¬ (10 : Int32) = 0 ∧ (qm_PW X 27 [.int r5, .int (a - a / 10 * 10)] h _)
    refine ⟨by decide, ?_⟩
    refine sf_27 X h r5 (a - a / 10 * 10) trivial _ (fun r7 p8 => ?_)
    show Q (some (.int r7)) h
    exact hq r7 trivial
-- ThreadBank$Memory.roomLeftAt(I)I
set_option maxRecDepth 100000 in
set_option maxHeartbeats 4000000 in
theorem sf_40_1 (X : qm_X) (h : qm_H) (a : Int32) (hp : mq 1 h) (Q : qm_Q) (hq : ∀ r : Int32, (True) → Q (some (.int r)) h) : qm_PW X 40 [.ref 1, .int a] h Q := by
  have hm1 : mq 1 h := hp
  have ⟨⟨_, _⟩, ⟨_, _⟩, _, _⟩ := hm1
  refine qm_seg_ok (C := qc_40) (rt := some .int) rfl rfl (cuts := []) 400 _ _ _ _ ?_
  show qm_PW X 37 [.ref 1, .int a] h _
  refine sf_37_1 X h a hm1 _ (fun r1 p2 => ?_)
  show qm_PW X 35 [.ref 1, .int a] h _
  refine sf_35_1 X h a hm1 _ (fun r3 p4 => ?_)
  show Q (some (.int (r1 - r3))) h
  exact hq (r1 - r3) trivial
-- ThreadBank$Memory.hasClerk(I)Z
set_option maxRecDepth 100000 in
set_option maxHeartbeats 4000000 in
theorem sf_28_25 (X : qm_X) (h : qm_H) (a : Int32) (hp : True) (Q : qm_Q) (hq : ∀ r : Int32, ((r = 0 ∨ r = 1) ∧ (¬ r = 0 → 0 ≤ a.toInt ∧ a.toInt < (h 25 6).toInt)) → Q (some (.int r)) h) : qm_PW X 28 [.ref 25, .int a] h Q := by
  refine qm_seg_ok (C := qc_28) (rt := some .boolean) rfl rfl (cuts := []) 400 _ _ _ _ ?_
  show (a.toInt < 0 → (((0 : Int32) = 0 ∨ (0 : Int32) = 1) ∧ Q (some (.int 0)) h)) ∧ (0 ≤ a.toInt → (((h 25 6).toInt ≤ a.toInt → (((0 : Int32) = 0 ∨ (0 : Int32) = 1) ∧ Q (some (.int 0)) h)) ∧ (a.toInt < (h 25 6).toInt → (((1 : Int32) = 0 ∨ (1 : Int32) = 1) ∧ Q (some (.int 1)) h))))
  refine ⟨fun c1 => ?_, fun c2 => ?_⟩
  · exact ⟨Or.inl rfl, hq 0 (by first | omega | exact ⟨Or.inl rfl, fun hc => absurd rfl hc⟩ | exact ⟨Or.inr rfl, fun hc => absurd hc (by decide)⟩ | (refine ⟨Or.inr rfl, fun _ => ?_⟩; omega) | (refine ⟨Or.inl rfl, fun _ => ?_⟩; omega) | (simp; done))⟩
  · refine ⟨fun c3 => ?_, fun c4 => ?_⟩
    · exact ⟨Or.inl rfl, hq 0 (by first | omega | exact ⟨Or.inl rfl, fun hc => absurd rfl hc⟩ | exact ⟨Or.inr rfl, fun hc => absurd hc (by decide)⟩ | (refine ⟨Or.inr rfl, fun _ => ?_⟩; omega) | (refine ⟨Or.inl rfl, fun _ => ?_⟩; omega) | (simp; done))⟩
    · exact ⟨Or.inr rfl, hq 1 (by first | omega | exact ⟨Or.inl rfl, fun hc => absurd rfl hc⟩ | exact ⟨Or.inr rfl, fun hc => absurd hc (by decide)⟩ | (refine ⟨Or.inr rfl, fun _ => ?_⟩; omega) | (refine ⟨Or.inl rfl, fun _ => ?_⟩; omega) | (simp; done))⟩
-- ThreadBank$Memory.hasPlace(I)Z
set_option maxRecDepth 100000 in
set_option maxHeartbeats 4000000 in
theorem sf_30_25 (X : qm_X) (h : qm_H) (a : Int32) (hp : True) (Q : qm_Q) (hq : ∀ r : Int32, (r = 0 ∨ r = 1) → Q (some (.int r)) h) : qm_PW X 30 [.ref 25, .int a] h Q := by
  refine qm_seg_ok (C := qc_30) (rt := some .boolean) rfl rfl (cuts := []) 400 _ _ _ _ ?_
  show qm_PW X 24 [.int a, .int (h 25 6)] h _
  refine sf_24 X h a (h 25 6) trivial _ (fun r1 p2 => ?_)
  show (r1 = 0 ∨ r1 = 1) ∧ Q (some (.int r1)) h
  exact ⟨p2, hq r1 p2⟩
-- ThreadBank$Memory.hasPair(I)Z
set_option maxRecDepth 100000 in
set_option maxHeartbeats 4000000 in
theorem sf_31_25 (X : qm_X) (h : qm_H) (a : Int32) (hp : True) (Q : qm_Q) (hq : ∀ r : Int32, (r = 0 ∨ r = 1) → Q (some (.int r)) h) : qm_PW X 31 [.ref 25, .int a] h Q := by
  refine qm_seg_ok (C := qc_31) (rt := some .boolean) rfl rfl (cuts := []) 400 _ _ _ _ ?_
  show qm_PW X 25 [.int a, .int (h 25 6)] h _
  refine sf_25 X h a (h 25 6) trivial _ (fun r1 p2 => ?_)
  show (r1 = 0 ∨ r1 = 1) ∧ Q (some (.int r1)) h
  exact ⟨p2, hq r1 p2⟩
-- ThreadBank$Memory.kindOf(I)I
set_option maxRecDepth 100000 in
set_option maxHeartbeats 4000000 in
theorem sf_32_25 (X : qm_X) (h : qm_H) (a : Int32) (hp : mq 25 h) (Q : qm_Q) (hq : ∀ r : Int32, (True) → Q (some (.int r)) h) : qm_PW X 32 [.ref 25, .int a] h Q := by
  have hm25 : mq 25 h := hp
  have ⟨⟨_, _⟩, ⟨_, _⟩, _, _⟩ := hm25
  refine qm_seg_ok (C := qc_32) (rt := some .int) rfl rfl (cuts := []) 400 _ _ _ _ ?_
  show qm_PW X 28 [.ref 25, .int a] h _
  refine sf_28_25 X h a trivial _ (fun r1 p2 => ?_)
  show (r1 = 0 → (Q (some (.int (-4 : Int32))) h)) ∧ (¬ r1 = 0 → ((0 ≤ a.toInt ∧ a.toInt < 4) ∧ (Q (some (.int (h 26 a.toInt.toNat))) h)))
  refine ⟨fun c3 => ?_, fun c4 => ?_⟩
  · exact hq (-4 : Int32) trivial
  · have := p2.2 c4
    refine ⟨(by omega), ?_⟩
    exact hq (h 26 a.toInt.toNat) trivial
-- ThreadBank$Memory.threadsAt(I)I
set_option maxRecDepth 100000 in
set_option maxHeartbeats 4000000 in
theorem sf_35_25_c (X : qm_X) (h : qm_H) (a : Int32) (hp : mq 25 h) (Q : qm_Q) (hq : ∀ r : Int32, (True) → Q (some (.int r)) h) : ∀ n : Nat, (∀ (l2 : Int32) (l3 : Int32), (0 ≤ l3.toInt ∧ l3.toInt ≤ 10) → (10 - l3.toInt).toNat < n → qm_PA X 35 4 [(0, .ref 25), (1, .int a), (2, .int l2), (3, .int l3)] [] h Q) := by
  have hm25 : mq 25 h := hp
  have ⟨⟨_, _⟩, ⟨_, _⟩, _, _⟩ := hm25
  intro n
  induction n with
  | zero => exact fun _ _ _ h0 => absurd h0 (Nat.not_lt_zero _)
  | succ n ih =>
    intro l2 l3 hi hr
    have ti_l3 := ti_rng l3
    refine qm_seg_ok (C := qc_35) (rt := some .int) rfl rfl (cuts := [(4, [0, 1, 2, 3])]) 400 _ _ _ _ ?_
    show ((h 25 7).toInt ≤ l3.toInt → (Q (some (.int l2)) h)) ∧ (l3.toInt < (h 25 7).toInt → ((0 ≤ l3.toInt ∧ l3.toInt < 10) ∧ ((¬ (h 27 l3.toInt.toNat) = a → (qm_PA X 35 4 [(0, .ref 25), (1, .int a), (2, .int l2), (3, .int (l3 + 1))] [] h Q)) ∧ ((h 27 l3.toInt.toNat) = a → (qm_PA X 35 4 [(0, .ref 25), (1, .int a), (2, .int (l2 + 1)), (3, .int (l3 + 1))] [] h Q)))))
    refine ⟨fun c1 => ?_, fun c2 => ?_⟩
    · exact hq l2 trivial
    · refine ⟨(by omega), ?_⟩
      refine ⟨fun c3 => ?_, fun c4 => ?_⟩
      · exact ih l2 (l3 + 1) (by have := ti_addK l3 (1 : Int32) 1 rfl; omega) (by have := ti_addK l3 (1 : Int32) 1 rfl; omega)
      · exact ih (l2 + 1) (l3 + 1) (by have := ti_addK l3 (1 : Int32) 1 rfl; omega) (by have := ti_addK l3 (1 : Int32) 1 rfl; omega)
set_option maxRecDepth 100000 in
set_option maxHeartbeats 4000000 in
theorem sf_35_25 (X : qm_X) (h : qm_H) (a : Int32) (hp : mq 25 h) (Q : qm_Q) (hq : ∀ r : Int32, (True) → Q (some (.int r)) h) : qm_PW X 35 [.ref 25, .int a] h Q := by
  have hm25 : mq 25 h := hp
  have ⟨⟨_, _⟩, ⟨_, _⟩, _, _⟩ := hm25
  refine qm_seg_ok (C := qc_35) (rt := some .int) rfl rfl (cuts := [(4, [0, 1, 2, 3])]) 400 _ _ _ _ ?_
  show qm_PA X 35 4 [(0, .ref 25), (1, .int a), (2, .int 0), (3, .int 0)] [] h Q
  exact (sf_35_25_c X h a hp Q hq _) (0 : Int32) (0 : Int32) (by have : (0 : Int32).toInt = 0 := rfl; omega) (Nat.lt_succ_self _)
-- ThreadBank$Memory.roomAt(I)I
set_option maxRecDepth 100000 in
set_option maxHeartbeats 4000000 in
theorem sf_37_25 (X : qm_X) (h : qm_H) (a : Int32) (hp : mq 25 h) (Q : qm_Q) (hq : ∀ r : Int32, (True) → Q (some (.int r)) h) : qm_PW X 37 [.ref 25, .int a] h Q := by
  have hm25 : mq 25 h := hp
  have ⟨⟨_, _⟩, ⟨_, _⟩, _, _⟩ := hm25
  refine qm_seg_ok (C := qc_37) (rt := some .int) rfl rfl (cuts := []) 400 _ _ _ _ ?_
  show qm_PW X 30 [.ref 25, .int a] h _
  refine sf_30_25 X h a trivial _ (fun r1 p2 => ?_)
  show (r1 = 0 → (Q (some (.int 0)) h)) ∧ (¬ r1 = 0 → (¬ (10 : Int32) = 0 ∧ (qm_PW X 32 [.ref 25, .int (a / 10)] h _)))
  refine ⟨fun c3 => ?_, fun c4 => ?_⟩
  · exact hq 0 trivial
  · refine ⟨by decide, ?_⟩
    refine sf_32_25 X h (a / 10) hm25 _ (fun r5 p6 => ?_)
    show ¬ (10 : Int32) = 0 ∧ (qm_PW X 27 [.int r5, .int (a - a / 10 * 10)] h _)
    refine ⟨by decide, ?_⟩
    refine sf_27 X h r5 (a - a / 10 * 10) trivial _ (fun r7 p8 => ?_)
    show Q (some (.int r7)) h
    exact hq r7 trivial
-- ThreadBank$Memory.roomLeftAt(I)I
set_option maxRecDepth 100000 in
set_option maxHeartbeats 4000000 in
theorem sf_40_25 (X : qm_X) (h : qm_H) (a : Int32) (hp : mq 25 h) (Q : qm_Q) (hq : ∀ r : Int32, (True) → Q (some (.int r)) h) : qm_PW X 40 [.ref 25, .int a] h Q := by
  have hm25 : mq 25 h := hp
  have ⟨⟨_, _⟩, ⟨_, _⟩, _, _⟩ := hm25
  refine qm_seg_ok (C := qc_40) (rt := some .int) rfl rfl (cuts := []) 400 _ _ _ _ ?_
  show qm_PW X 37 [.ref 25, .int a] h _
  refine sf_37_25 X h a hm25 _ (fun r1 p2 => ?_)
  show qm_PW X 35 [.ref 25, .int a] h _
  refine sf_35_25 X h a hm25 _ (fun r3 p4 => ?_)
  show Q (some (.int (r1 - r3))) h
  exact hq (r1 - r3) trivial
-- ThreadBank$Memory.handOf(I)I
set_option maxRecDepth 100000 in
set_option maxHeartbeats 4000000 in
theorem sf_33_1 (X : qm_X) (h : qm_H) (a : Int32) (hp : mq 1 h) (Q : qm_Q) (hq : ∀ r : Int32, (True) → Q (some (.int r)) h) : qm_PW X 33 [.ref 1, .int a] h Q := by
  have hm1 : mq 1 h := hp
  have ⟨⟨_, _⟩, ⟨_, _⟩, _, _⟩ := hm1
  refine qm_seg_ok (C := qc_33) (rt := some .int) rfl rfl (cuts := []) 400 _ _ _ _ ?_
  show qm_PW X 29 [.ref 1, .int a] h _
  refine sf_29_1 X h a trivial _ (fun r1 p2 => ?_)
  show (r1 = 0 → (Q (some (.int (-4 : Int32))) h)) ∧ (¬ r1 = 0 → ((0 ≤ a.toInt ∧ a.toInt < 10) ∧ (¬ (10 : Int32) = 0 ∧ (Q (some (.int ((h 3 a.toInt.toNat) / 10))) h))))
  refine ⟨fun c3 => ?_, fun c4 => ?_⟩
  · exact hq (-4 : Int32) trivial
  · have := p2.2 c4
    refine ⟨(by omega), ?_⟩
    refine ⟨by decide, ?_⟩
    exact hq ((h 3 a.toInt.toNat) / 10) trivial
-- ThreadBank$Memory.threadBits()I
set_option maxRecDepth 100000 in
set_option maxHeartbeats 4000000 in
theorem sf_34_1 (X : qm_X) (h : qm_H) (hp : mq 1 h) (Q : qm_Q) (hq : ∀ r : Int32, (0 ≤ r.toInt ∧ r.toInt ≤ 1023) → Q (some (.int r)) h) : qm_PW X 34 [.ref 1] h Q := by
  have hm1 : mq 1 h := hp
  have ⟨⟨_, _⟩, ⟨_, _⟩, _, _⟩ := hm1
  refine qm_seg_ok (C := qc_34) (rt := some .int) rfl rfl (cuts := []) 400 _ _ _ _ ?_
  show Q (some (.int ((1 <<< ((h 1 7) &&& 31)) - 1))) h
  exact hq ((1 <<< ((h 1 7) &&& 31)) - 1) (by exact bits_le (h 1 7) (by omega) (by omega))
-- ThreadBank$Memory.threadsOn(I)I
set_option maxRecDepth 100000 in
set_option maxHeartbeats 4000000 in
theorem sf_36_1_c (X : qm_X) (h : qm_H) (a : Int32) (hp : mq 1 h) (Q : qm_Q) (hq : ∀ r : Int32, (True) → Q (some (.int r)) h) : ∀ n : Nat, (∀ (l2 : Int32) (l3 : Int32), (0 ≤ l3.toInt ∧ l3.toInt ≤ 10) → (10 - l3.toInt).toNat < n → qm_PA X 36 4 [(0, .ref 1), (1, .int a), (2, .int l2), (3, .int l3)] [] h Q) := by
  have hm1 : mq 1 h := hp
  have ⟨⟨_, _⟩, ⟨_, _⟩, _, _⟩ := hm1
  intro n
  induction n with
  | zero => exact fun _ _ _ h0 => absurd h0 (Nat.not_lt_zero _)
  | succ n ih =>
    intro l2 l3 hi hr
    have ti_l3 := ti_rng l3
    refine qm_seg_ok (C := qc_36) (rt := some .int) rfl rfl (cuts := [(4, [0, 1, 2, 3])]) 400 _ _ _ _ ?_
    show ((h 1 7).toInt ≤ l3.toInt → (Q (some (.int l2)) h)) ∧ (l3.toInt < (h 1 7).toInt → (qm_PW X 33 [.ref 1, .int l3] h _))
    refine ⟨fun c1 => ?_, fun c2 => ?_⟩
    · exact hq l2 trivial
    · refine sf_33_1 X h l3 hm1 _ (fun r3 p4 => ?_)
      show (¬ r3 = a → (qm_PA X 36 4 [(0, .ref 1), (1, .int a), (2, .int l2), (3, .int (l3 + 1))] [] h Q)) ∧ (r3 = a → (qm_PA X 36 4 [(0, .ref 1), (1, .int a), (2, .int (l2 + 1)), (3, .int (l3 + 1))] [] h Q))
      refine ⟨fun c5 => ?_, fun c6 => ?_⟩
      · exact ih l2 (l3 + 1) (by have := ti_addK l3 (1 : Int32) 1 rfl; omega) (by have := ti_addK l3 (1 : Int32) 1 rfl; omega)
      · exact ih (l2 + 1) (l3 + 1) (by have := ti_addK l3 (1 : Int32) 1 rfl; omega) (by have := ti_addK l3 (1 : Int32) 1 rfl; omega)
set_option maxRecDepth 100000 in
set_option maxHeartbeats 4000000 in
theorem sf_36_1 (X : qm_X) (h : qm_H) (a : Int32) (hp : mq 1 h) (Q : qm_Q) (hq : ∀ r : Int32, (True) → Q (some (.int r)) h) : qm_PW X 36 [.ref 1, .int a] h Q := by
  have hm1 : mq 1 h := hp
  have ⟨⟨_, _⟩, ⟨_, _⟩, _, _⟩ := hm1
  refine qm_seg_ok (C := qc_36) (rt := some .int) rfl rfl (cuts := [(4, [0, 1, 2, 3])]) 400 _ _ _ _ ?_
  show qm_PA X 36 4 [(0, .ref 1), (1, .int a), (2, .int 0), (3, .int 0)] [] h Q
  exact (sf_36_1_c X h a hp Q hq _) (0 : Int32) (0 : Int32) (by have : (0 : Int32).toInt = 0 := rfl; omega) (Nat.lt_succ_self _)
-- ThreadBank$Memory.roomOn(I)I
set_option maxRecDepth 100000 in
set_option maxHeartbeats 4000000 in
theorem sf_38_1_c (X : qm_X) (h : qm_H) (a : Int32) (hp : mq 1 h) (Q : qm_Q) (hq : ∀ r : Int32, (True) → Q (some (.int r)) h) : ∀ n : Nat, (∀ (l2 : Int32) (l3 : Int32), (0 ≤ l3.toInt ∧ l3.toInt ≤ 5) → (5 - l3.toInt).toNat < n → qm_PA X 38 4 [(0, .ref 1), (1, .int a), (2, .int l2), (3, .int l3)] [] h Q) := by
  have hm1 : mq 1 h := hp
  have ⟨⟨_, _⟩, ⟨_, _⟩, _, _⟩ := hm1
  intro n
  induction n with
  | zero => exact fun _ _ _ h0 => absurd h0 (Nat.not_lt_zero _)
  | succ n ih =>
    intro l2 l3 hi hr
    have ti_l3 := ti_rng l3
    refine qm_seg_ok (C := qc_38) (rt := some .int) rfl rfl (cuts := [(4, [0, 1, 2, 3])]) 400 _ _ _ _ ?_
    show (5 ≤ l3.toInt → (Q (some (.int l2)) h)) ∧ (l3.toInt < 5 → (qm_PW X 37 [.ref 1, .int ((10 * a) + l3)] h _))
    refine ⟨fun c1 => ?_, fun c2 => ?_⟩
    · exact hq l2 trivial
    · refine sf_37_1 X h ((10 * a) + l3) hm1 _ (fun r3 p4 => ?_)
      show qm_PA X 38 4 [(0, .ref 1), (1, .int a), (2, .int (l2 + r3)), (3, .int (l3 + 1))] [] h Q
      exact ih (l2 + r3) (l3 + 1) (by have := ti_addK l3 (1 : Int32) 1 rfl; omega) (by have := ti_addK l3 (1 : Int32) 1 rfl; omega)
set_option maxRecDepth 100000 in
set_option maxHeartbeats 4000000 in
theorem sf_38_1 (X : qm_X) (h : qm_H) (a : Int32) (hp : mq 1 h) (Q : qm_Q) (hq : ∀ r : Int32, (True) → Q (some (.int r)) h) : qm_PW X 38 [.ref 1, .int a] h Q := by
  have hm1 : mq 1 h := hp
  have ⟨⟨_, _⟩, ⟨_, _⟩, _, _⟩ := hm1
  refine qm_seg_ok (C := qc_38) (rt := some .int) rfl rfl (cuts := [(4, [0, 1, 2, 3])]) 400 _ _ _ _ ?_
  show qm_PA X 38 4 [(0, .ref 1), (1, .int a), (2, .int 0), (3, .int 0)] [] h Q
  exact (sf_38_1_c X h a hp Q hq _) (0 : Int32) (0 : Int32) (by have : (0 : Int32).toInt = 0 := rfl; omega) (Nat.lt_succ_self _)
-- ThreadBank$Memory.roomOfAll()I
set_option maxRecDepth 100000 in
set_option maxHeartbeats 4000000 in
theorem sf_39_1_c (X : qm_X) (h : qm_H) (hp : mq 1 h) (Q : qm_Q) (hq : ∀ r : Int32, (True) → Q (some (.int r)) h) : ∀ n : Nat, (∀ (l1 : Int32) (l2 : Int32), (0 ≤ l2.toInt ∧ l2.toInt ≤ 4) → (4 - l2.toInt).toNat < n → qm_PA X 39 4 [(0, .ref 1), (1, .int l1), (2, .int l2)] [] h Q) := by
  have hm1 : mq 1 h := hp
  have ⟨⟨_, _⟩, ⟨_, _⟩, _, _⟩ := hm1
  intro n
  induction n with
  | zero => exact fun _ _ _ h0 => absurd h0 (Nat.not_lt_zero _)
  | succ n ih =>
    intro l1 l2 hi hr
    have ti_l2 := ti_rng l2
    refine qm_seg_ok (C := qc_39) (rt := some .int) rfl rfl (cuts := [(4, [0, 1, 2])]) 400 _ _ _ _ ?_
    show ((h 1 6).toInt ≤ l2.toInt → (Q (some (.int l1)) h)) ∧ (l2.toInt < (h 1 6).toInt → (qm_PW X 38 [.ref 1, .int l2] h _))
    refine ⟨fun c1 => ?_, fun c2 => ?_⟩
    · exact hq l1 trivial
    · refine sf_38_1 X h l2 hm1 _ (fun r3 p4 => ?_)
      show qm_PA X 39 4 [(0, .ref 1), (1, .int (l1 + r3)), (2, .int (l2 + 1))] [] h Q
      exact ih (l1 + r3) (l2 + 1) (by have := ti_addK l2 (1 : Int32) 1 rfl; omega) (by have := ti_addK l2 (1 : Int32) 1 rfl; omega)
set_option maxRecDepth 100000 in
set_option maxHeartbeats 4000000 in
theorem sf_39_1 (X : qm_X) (h : qm_H) (hp : mq 1 h) (Q : qm_Q) (hq : ∀ r : Int32, (True) → Q (some (.int r)) h) : qm_PW X 39 [.ref 1] h Q := by
  have hm1 : mq 1 h := hp
  have ⟨⟨_, _⟩, ⟨_, _⟩, _, _⟩ := hm1
  refine qm_seg_ok (C := qc_39) (rt := some .int) rfl rfl (cuts := [(4, [0, 1, 2])]) 400 _ _ _ _ ?_
  show qm_PA X 39 4 [(0, .ref 1), (1, .int 0), (2, .int 0)] [] h Q
  exact (sf_39_1_c X h hp Q hq _) (0 : Int32) (0 : Int32) (by have : (0 : Int32).toInt = 0 := rfl; omega) (Nat.lt_succ_self _)
-- ThreadBank$Memory.roomLeftOn(I)I
set_option maxRecDepth 100000 in
set_option maxHeartbeats 4000000 in
theorem sf_41_1 (X : qm_X) (h : qm_H) (a : Int32) (hp : mq 1 h) (Q : qm_Q) (hq : ∀ r : Int32, (True) → Q (some (.int r)) h) : qm_PW X 41 [.ref 1, .int a] h Q := by
  have hm1 : mq 1 h := hp
  have ⟨⟨_, _⟩, ⟨_, _⟩, _, _⟩ := hm1
  refine qm_seg_ok (C := qc_41) (rt := some .int) rfl rfl (cuts := []) 400 _ _ _ _ ?_
  show qm_PW X 38 [.ref 1, .int a] h _
  refine sf_38_1 X h a hm1 _ (fun r1 p2 => ?_)
  show qm_PW X 36 [.ref 1, .int a] h _
  refine sf_36_1 X h a hm1 _ (fun r3 p4 => ?_)
  show Q (some (.int (r1 - r3))) h
  exact hq (r1 - r3) trivial
end
section
-- ThreadBank.hasBit(II)Z
set_option maxRecDepth 100000 in
set_option maxHeartbeats 4000000 in
theorem sf_138 (X : qm_X) (h : qm_H) (a : Int32) (b : Int32) (hp : True) (Q : qm_Q) (hq : ∀ r : Int32, (r = 0 ∨ r = 1) → Q (some (.int r)) h) : qm_PW X 138 [.int a, .int b] h Q := by
  refine qm_seg_ok (C := qc_138) (rt := some .boolean) rfl rfl (cuts := []) 400 _ _ _ _ ?_
  show (((a >>> (b &&& 31)) &&& 1) = 0 → (((0 : Int32) = 0 ∨ (0 : Int32) = 1) ∧ Q (some (.int 0)) h)) ∧ (¬ ((a >>> (b &&& 31)) &&& 1) = 0 → (((1 : Int32) = 0 ∨ (1 : Int32) = 1) ∧ Q (some (.int 1)) h))
  refine ⟨fun c1 => ?_, fun c2 => ?_⟩
  · exact ⟨Or.inl rfl, hq 0 (Or.inl rfl)⟩
  · exact ⟨Or.inr rfl, hq 1 (Or.inr rfl)⟩
-- ThreadBank$Memory.fingersOfRoom(I)I
set_option maxRecDepth 100000 in
set_option maxHeartbeats 4000000 in
theorem sf_42_1_c (X : qm_X) (h : qm_H) (a : Int32) (hp : mq 1 h) (Q : qm_Q) (hq : ∀ r : Int32, (True) → Q (some (.int r)) h) : ∀ n : Nat, (∀ (l2 : Int32) (l3 : Int32), (0 ≤ l3.toInt ∧ l3.toInt ≤ 4) → ((4 - l3.toInt) * 100 + 50).toNat < n → qm_PA X 42 4 [(0, .ref 1), (1, .int a), (2, .int l2), (3, .int l3)] [] h Q) ∧ (∀ (l2 : Int32) (l3 : Int32) (l4 : Int32), (0 ≤ l3.toInt ∧ l3.toInt ≤ 3 ∧ 0 ≤ l4.toInt ∧ l4.toInt ≤ 5) → ((4 - l3.toInt) * 100 + 40 - l4.toInt).toNat < n → qm_PA X 42 15 [(0, .ref 1), (1, .int a), (2, .int l2), (3, .int l3), (4, .int l4)] [] h Q) := by
  have hm1 : mq 1 h := hp
  have ⟨⟨_, _⟩, ⟨_, _⟩, _, _⟩ := hm1
  intro n
  induction n with
  | zero => exact ⟨fun _ _ _ h0 => absurd h0 (Nat.not_lt_zero _), fun _ _ _ _ h0 => absurd h0 (Nat.not_lt_zero _)⟩
  | succ n ih =>
    refine ⟨?_, ?_⟩
    · intro l2 l3 hi hr
      refine qm_seg_ok (C := qc_42) (rt := some .int) rfl rfl (cuts := [(4, [0, 1, 2, 3]), (15, [0, 1, 2, 3, 4])]) 400 _ _ _ _ ?_
      show ((h 1 6).toInt ≤ l3.toInt → (Q (some (.int l2)) h)) ∧ (l3.toInt < (h 1 6).toInt → (qm_PA X 42 15 [(0, .ref 1), (1, .int a), (2, .int l2), (3, .int l3), (4, .int 0)] [] h Q))
      refine ⟨fun c1 => ?_, fun c2 => ?_⟩
      · exact hq l2 trivial
      · exact ih.2 l2 l3 (0 : Int32) (by have : (0 : Int32).toInt = 0 := rfl; omega) (by have : (0 : Int32).toInt = 0 := rfl; omega)
    · intro l2 l3 l4 hi hr
      refine qm_seg_ok (C := qc_42) (rt := some .int) rfl rfl (cuts := [(4, [0, 1, 2, 3]), (15, [0, 1, 2, 3, 4])]) 400 _ _ _ _ ?_
      show (5 ≤ l4.toInt → (qm_PA X 42 4 [(0, .ref 1), (1, .int a), (2, .int l2), (3, .int (l3 + 1))] [] h Q)) ∧ (l4.toInt < 5 → (qm_PW X 37 [.ref 1, .int ((10 * l3) + l4)] h _))
      refine ⟨fun c1 => ?_, fun c2 => ?_⟩
      · exact ih.1 l2 (l3 + 1) (by have := ti_addK l3 (1 : Int32) 1 rfl; omega) (by have := ti_addK l3 (1 : Int32) 1 rfl; omega)
      · refine sf_37_1 X h ((10 * l3) + l4) hm1 _ (fun r3 p4 => ?_)
        show (¬ r3 = a → (qm_PA X 42 15 [(0, .ref 1), (1, .int a), (2, .int l2), (3, .int l3), (4, .int (l4 + 1))] [] h Q)) ∧ (r3 = a → (qm_PA X 42 15 [(0, .ref 1), (1, .int a), (2, .int (l2 + 1)), (3, .int l3), (4, .int (l4 + 1))] [] h Q))
        refine ⟨fun c5 => ?_, fun c6 => ?_⟩
        · exact ih.2 l2 l3 (l4 + 1) (by have := ti_addK l4 (1 : Int32) 1 rfl; omega) (by have := ti_addK l4 (1 : Int32) 1 rfl; omega)
        · exact ih.2 (l2 + 1) l3 (l4 + 1) (by have := ti_addK l4 (1 : Int32) 1 rfl; omega) (by have := ti_addK l4 (1 : Int32) 1 rfl; omega)
set_option maxRecDepth 100000 in
set_option maxHeartbeats 4000000 in
theorem sf_42_1 (X : qm_X) (h : qm_H) (a : Int32) (hp : mq 1 h) (Q : qm_Q) (hq : ∀ r : Int32, (True) → Q (some (.int r)) h) : qm_PW X 42 [.ref 1, .int a] h Q := by
  have hm1 : mq 1 h := hp
  have ⟨⟨_, _⟩, ⟨_, _⟩, _, _⟩ := hm1
  refine qm_seg_ok (C := qc_42) (rt := some .int) rfl rfl (cuts := [(4, [0, 1, 2, 3]), (15, [0, 1, 2, 3, 4])]) 400 _ _ _ _ ?_
  show qm_PA X 42 4 [(0, .ref 1), (1, .int a), (2, .int 0), (3, .int 0)] [] h Q
  exact (sf_42_1_c X h a hp Q hq _).1 (0 : Int32) (0 : Int32) (by have : (0 : Int32).toInt = 0 := rfl; omega) (Nat.lt_succ_self _)
-- ThreadBank$Memory.fingersInUse()I
set_option maxRecDepth 100000 in
set_option maxHeartbeats 4000000 in
theorem sf_43_1_c (X : qm_X) (h : qm_H) (hp : mq 1 h) (Q : qm_Q) (hq : ∀ r : Int32, (True) → Q (some (.int r)) h) : ∀ n : Nat, (∀ (l1 : Int32) (l2 : Int32), (0 ≤ l2.toInt ∧ l2.toInt ≤ 4) → ((4 - l2.toInt) * 100 + 50).toNat < n → qm_PA X 43 4 [(0, .ref 1), (1, .int l1), (2, .int l2)] [] h Q) ∧ (∀ (l1 : Int32) (l2 : Int32) (l3 : Int32), (0 ≤ l2.toInt ∧ l2.toInt ≤ 3 ∧ 0 ≤ l3.toInt ∧ l3.toInt ≤ 5) → ((4 - l2.toInt) * 100 + 40 - l3.toInt).toNat < n → qm_PA X 43 14 [(0, .ref 1), (1, .int l1), (2, .int l2), (3, .int l3)] [] h Q) := by
  have hm1 : mq 1 h := hp
  have ⟨⟨_, _⟩, ⟨_, _⟩, _, _⟩ := hm1
  intro n
  induction n with
  | zero => exact ⟨fun _ _ _ h0 => absurd h0 (Nat.not_lt_zero _), fun _ _ _ _ h0 => absurd h0 (Nat.not_lt_zero _)⟩
  | succ n ih =>
    refine ⟨?_, ?_⟩
    · intro l1 l2 hi hr
      refine qm_seg_ok (C := qc_43) (rt := some .int) rfl rfl (cuts := [(4, [0, 1, 2]), (14, [0, 1, 2, 3])]) 400 _ _ _ _ ?_
      show ((h 1 6).toInt ≤ l2.toInt → (Q (some (.int l1)) h)) ∧ (l2.toInt < (h 1 6).toInt → (qm_PA X 43 14 [(0, .ref 1), (1, .int l1), (2, .int l2), (3, .int 0)] [] h Q))
      refine ⟨fun c1 => ?_, fun c2 => ?_⟩
      · exact hq l1 trivial
      · exact ih.2 l1 l2 (0 : Int32) (by have : (0 : Int32).toInt = 0 := rfl; omega) (by have : (0 : Int32).toInt = 0 := rfl; omega)
    · intro l1 l2 l3 hi hr
      refine qm_seg_ok (C := qc_43) (rt := some .int) rfl rfl (cuts := [(4, [0, 1, 2]), (14, [0, 1, 2, 3])]) 400 _ _ _ _ ?_
      show (5 ≤ l3.toInt → (qm_PA X 43 4 [(0, .ref 1), (1, .int l1), (2, .int (l2 + 1))] [] h Q)) ∧ (l3.toInt < 5 → (qm_PW X 35 [.ref 1, .int ((10 * l2) + l3)] h _))
      refine ⟨fun c1 => ?_, fun c2 => ?_⟩
      · exact ih.1 l1 (l2 + 1) (by have := ti_addK l2 (1 : Int32) 1 rfl; omega) (by have := ti_addK l2 (1 : Int32) 1 rfl; omega)
      · refine sf_35_1 X h ((10 * l2) + l3) hm1 _ (fun r3 p4 => ?_)
        show (r3.toInt ≤ 0 → (qm_PA X 43 14 [(0, .ref 1), (1, .int l1), (2, .int l2), (3, .int (l3 + 1))] [] h Q)) ∧ (0 < r3.toInt → (qm_PA X 43 14 [(0, .ref 1), (1, .int (l1 + 1)), (2, .int l2), (3, .int (l3 + 1))] [] h Q))
        refine ⟨fun c5 => ?_, fun c6 => ?_⟩
        · exact ih.2 l1 l2 (l3 + 1) (by have := ti_addK l3 (1 : Int32) 1 rfl; omega) (by have := ti_addK l3 (1 : Int32) 1 rfl; omega)
        · exact ih.2 (l1 + 1) l2 (l3 + 1) (by have := ti_addK l3 (1 : Int32) 1 rfl; omega) (by have := ti_addK l3 (1 : Int32) 1 rfl; omega)
set_option maxRecDepth 100000 in
set_option maxHeartbeats 4000000 in
theorem sf_43_1 (X : qm_X) (h : qm_H) (hp : mq 1 h) (Q : qm_Q) (hq : ∀ r : Int32, (True) → Q (some (.int r)) h) : qm_PW X 43 [.ref 1] h Q := by
  have hm1 : mq 1 h := hp
  have ⟨⟨_, _⟩, ⟨_, _⟩, _, _⟩ := hm1
  refine qm_seg_ok (C := qc_43) (rt := some .int) rfl rfl (cuts := [(4, [0, 1, 2]), (14, [0, 1, 2, 3])]) 400 _ _ _ _ ?_
  show qm_PA X 43 4 [(0, .ref 1), (1, .int 0), (2, .int 0)] [] h Q
  exact (sf_43_1_c X h hp Q hq _).1 (0 : Int32) (0 : Int32) (by have : (0 : Int32).toInt = 0 := rfl; omega) (Nat.lt_succ_self _)
-- ThreadBank$Memory.addClerk(I)Z
set_option maxRecDepth 100000 in
set_option maxHeartbeats 4000000 in
theorem sf_44_25 (X : qm_X) (h : qm_H) (a : Int32) (hp : mq 25 h) (Q : qm_Q) (hq : ∀ r : Int32, ∀ h' : qm_H, (mq 25 h' ∧ (∀ k, (k < 25 ∨ 31 < k) → h' k = h k) ∧ (r = 0 ∨ r = 1)) → Q (some (.int r)) h') : qm_PW X 44 [.ref 25, .int a] h Q := by
  have hm25 : mq 25 h := hp
  have ⟨⟨_, _⟩, ⟨_, _⟩, _, _⟩ := hm25
  refine qm_seg_ok (C := qc_44) (rt := some .boolean) rfl rfl (cuts := []) 400 _ _ _ _ ?_
  show ((h 25 6).toInt < 4 → ((0 ≤ (h 25 6).toInt ∧ (h 25 6).toInt < 4) ∧ (((1 : Int32) = 0 ∨ (1 : Int32) = 1) ∧ Q (some (.int 1)) (qm_row (qm_row h 26 (upd (h 26) (h 25 6).toInt.toNat a)) 25 (upd (h 25) 6 ((h 25 6) + 1)))))) ∧ (4 ≤ (h 25 6).toInt → (((0 : Int32) = 0 ∨ (0 : Int32) = 1) ∧ Q (some (.int 0)) h))
  refine ⟨fun c1 => ?_, fun c2 => ?_⟩
  · refine ⟨(by omega), ?_⟩
    exact ⟨Or.inr rfl, hq 1 (qm_row (qm_row h 26 (upd (h 26) (h 25 6).toInt.toNat a)) 25 (upd (h 25) 6 ((h 25 6) + 1))) ⟨(by have ⟨⟨_, _⟩, ⟨_, _⟩, _, _⟩ := hm25; show (0 ≤ ((h 25 6) + 1).toInt ∧ ((h 25 6) + 1).toInt ≤ 4) ∧ (0 ≤ (h 25 7).toInt ∧ (h 25 7).toInt ≤ 10) ∧ (0 ≤ (h 25 9).toInt ∧ (h 25 9).toInt ≤ 6); have := ti_addK (h 25 6) (1 : Int32) 1 rfl; omega), (fun k hk => by simp only [qm_row]; rw [if_neg (by omega)]; rw [if_neg (by omega)]), (Or.inr rfl)⟩⟩
  · exact ⟨Or.inl rfl, hq 0 h ⟨hm25, (fun k hk => rfl), (Or.inl rfl)⟩⟩
-- ThreadBank$Memory.addThread(III)Z
set_option maxRecDepth 100000 in
set_option maxHeartbeats 4000000 in
theorem sf_45_1 (X : qm_X) (h : qm_H) (a : Int32) (b : Int32) (c : Int32) (hp : mq 1 h) (Q : qm_Q) (hq : ∀ r : Int32, ∀ h' : qm_H, (mq 1 h' ∧ (∀ k, (k < 1 ∨ 7 < k) → h' k = h k) ∧ (r = 0 ∨ r = 1)) → Q (some (.int r)) h') : qm_PW X 45 [.ref 1, .int a, .int b, .int c] h Q := by
  have hm1 : mq 1 h := hp
  have ⟨⟨_, _⟩, ⟨_, _⟩, _, _⟩ := hm1
  refine qm_seg_ok (C := qc_45) (rt := some .boolean) rfl rfl (cuts := []) 400 _ _ _ _ ?_
  show ((h 1 7).toInt < 10 → ((0 ≤ (h 1 7).toInt ∧ (h 1 7).toInt < 10) ∧ ((0 ≤ (h 1 7).toInt ∧ (h 1 7).toInt < 10) ∧ ((0 ≤ (h 1 7).toInt ∧ (h 1 7).toInt < 10) ∧ (((1 : Int32) = 0 ∨ (1 : Int32) = 1) ∧ Q (some (.int 1)) (qm_row (qm_row (qm_row (qm_row h 3 (upd (h 3) (h 1 7).toInt.toNat a)) 4 (upd (h 4) (h 1 7).toInt.toNat b)) 5 (upd (h 5) (h 1 7).toInt.toNat c)) 1 (upd (h 1) 7 ((h 1 7) + 1)))))))) ∧ (10 ≤ (h 1 7).toInt → (((0 : Int32) = 0 ∨ (0 : Int32) = 1) ∧ Q (some (.int 0)) h))
  refine ⟨fun c1 => ?_, fun c2 => ?_⟩
  · refine ⟨(by omega), ?_⟩
    refine ⟨(by omega), ?_⟩
    refine ⟨(by omega), ?_⟩
    exact ⟨Or.inr rfl, hq 1 (qm_row (qm_row (qm_row (qm_row h 3 (upd (h 3) (h 1 7).toInt.toNat a)) 4 (upd (h 4) (h 1 7).toInt.toNat b)) 5 (upd (h 5) (h 1 7).toInt.toNat c)) 1 (upd (h 1) 7 ((h 1 7) + 1))) ⟨(by have ⟨⟨_, _⟩, ⟨_, _⟩, _, _⟩ := hm1; show (0 ≤ (h 1 6).toInt ∧ (h 1 6).toInt ≤ 4) ∧ (0 ≤ ((h 1 7) + 1).toInt ∧ ((h 1 7) + 1).toInt ≤ 10) ∧ (0 ≤ (h 1 9).toInt ∧ (h 1 9).toInt ≤ 6); have := ti_addK (h 1 7) (1 : Int32) 1 rfl; omega), (fun k hk => by simp only [qm_row]; rw [if_neg (by omega)]; rw [if_neg (by omega)]; rw [if_neg (by omega)]; rw [if_neg (by omega)]), (Or.inr rfl)⟩⟩
  · exact ⟨Or.inl rfl, hq 0 h ⟨hm1, (fun k hk => rfl), (Or.inl rfl)⟩⟩
-- ThreadBank$Memory.addThread(III)Z
set_option maxRecDepth 100000 in
set_option maxHeartbeats 4000000 in
theorem sf_45_25 (X : qm_X) (h : qm_H) (a : Int32) (b : Int32) (c : Int32) (hp : mq 25 h) (Q : qm_Q) (hq : ∀ r : Int32, ∀ h' : qm_H, (mq 25 h' ∧ (∀ k, (k < 25 ∨ 31 < k) → h' k = h k) ∧ (r = 0 ∨ r = 1)) → Q (some (.int r)) h') : qm_PW X 45 [.ref 25, .int a, .int b, .int c] h Q := by
  have hm25 : mq 25 h := hp
  have ⟨⟨_, _⟩, ⟨_, _⟩, _, _⟩ := hm25
  refine qm_seg_ok (C := qc_45) (rt := some .boolean) rfl rfl (cuts := []) 400 _ _ _ _ ?_
  show ((h 25 7).toInt < 10 → ((0 ≤ (h 25 7).toInt ∧ (h 25 7).toInt < 10) ∧ ((0 ≤ (h 25 7).toInt ∧ (h 25 7).toInt < 10) ∧ ((0 ≤ (h 25 7).toInt ∧ (h 25 7).toInt < 10) ∧ (((1 : Int32) = 0 ∨ (1 : Int32) = 1) ∧ Q (some (.int 1)) (qm_row (qm_row (qm_row (qm_row h 27 (upd (h 27) (h 25 7).toInt.toNat a)) 28 (upd (h 28) (h 25 7).toInt.toNat b)) 29 (upd (h 29) (h 25 7).toInt.toNat c)) 25 (upd (h 25) 7 ((h 25 7) + 1)))))))) ∧ (10 ≤ (h 25 7).toInt → (((0 : Int32) = 0 ∨ (0 : Int32) = 1) ∧ Q (some (.int 0)) h))
  refine ⟨fun c1 => ?_, fun c2 => ?_⟩
  · refine ⟨(by omega), ?_⟩
    refine ⟨(by omega), ?_⟩
    refine ⟨(by omega), ?_⟩
    exact ⟨Or.inr rfl, hq 1 (qm_row (qm_row (qm_row (qm_row h 27 (upd (h 27) (h 25 7).toInt.toNat a)) 28 (upd (h 28) (h 25 7).toInt.toNat b)) 29 (upd (h 29) (h 25 7).toInt.toNat c)) 25 (upd (h 25) 7 ((h 25 7) + 1))) ⟨(by have ⟨⟨_, _⟩, ⟨_, _⟩, _, _⟩ := hm25; show (0 ≤ (h 25 6).toInt ∧ (h 25 6).toInt ≤ 4) ∧ (0 ≤ ((h 25 7) + 1).toInt ∧ ((h 25 7) + 1).toInt ≤ 10) ∧ (0 ≤ (h 25 9).toInt ∧ (h 25 9).toInt ≤ 6); have := ti_addK (h 25 7) (1 : Int32) 1 rfl; omega), (fun k hk => by simp only [qm_row]; rw [if_neg (by omega)]; rw [if_neg (by omega)]; rw [if_neg (by omega)]; rw [if_neg (by omega)]), (Or.inr rfl)⟩⟩
  · exact ⟨Or.inl rfl, hq 0 h ⟨hm25, (fun k hk => rfl), (Or.inl rfl)⟩⟩
-- ThreadBank$Memory.addSeen(II)Z
set_option maxRecDepth 100000 in
set_option maxHeartbeats 4000000 in
theorem sf_46_1 (X : qm_X) (h : qm_H) (a : Int32) (b : Int32) (hp : mq 1 h) (Q : qm_Q) (hq : ∀ r : Int32, ∀ h' : qm_H, (mq 1 h' ∧ (∀ k, (k < 1 ∨ 7 < k) → h' k = h k) ∧ (r = 0 ∨ r = 1)) → Q (some (.int r)) h') : qm_PW X 46 [.ref 1, .int a, .int b] h Q := by
  have hm1 : mq 1 h := hp
  have ⟨⟨_, _⟩, ⟨_, _⟩, _, _⟩ := hm1
  refine qm_seg_ok (C := qc_46) (rt := some .boolean) rfl rfl (cuts := []) 400 _ _ _ _ ?_
  show ((h 1 9).toInt < 6 → ((0 ≤ (h 1 9).toInt ∧ (h 1 9).toInt < 6) ∧ ((0 ≤ (h 1 9).toInt ∧ (h 1 9).toInt < 6) ∧ (((1 : Int32) = 0 ∨ (1 : Int32) = 1) ∧ Q (some (.int 1)) (qm_row (qm_row (qm_row h 6 (upd (h 6) (h 1 9).toInt.toNat a)) 7 (upd (h 7) (h 1 9).toInt.toNat b)) 1 (upd (h 1) 9 ((h 1 9) + 1))))))) ∧ (6 ≤ (h 1 9).toInt → (((0 : Int32) = 0 ∨ (0 : Int32) = 1) ∧ Q (some (.int 0)) h))
  refine ⟨fun c1 => ?_, fun c2 => ?_⟩
  · refine ⟨(by omega), ?_⟩
    refine ⟨(by omega), ?_⟩
    exact ⟨Or.inr rfl, hq 1 (qm_row (qm_row (qm_row h 6 (upd (h 6) (h 1 9).toInt.toNat a)) 7 (upd (h 7) (h 1 9).toInt.toNat b)) 1 (upd (h 1) 9 ((h 1 9) + 1))) ⟨(by have ⟨⟨_, _⟩, ⟨_, _⟩, _, _⟩ := hm1; show (0 ≤ (h 1 6).toInt ∧ (h 1 6).toInt ≤ 4) ∧ (0 ≤ (h 1 7).toInt ∧ (h 1 7).toInt ≤ 10) ∧ (0 ≤ ((h 1 9) + 1).toInt ∧ ((h 1 9) + 1).toInt ≤ 6); have := ti_addK (h 1 9) (1 : Int32) 1 rfl; omega), (fun k hk => by simp only [qm_row]; rw [if_neg (by omega)]; rw [if_neg (by omega)]; rw [if_neg (by omega)]), (Or.inr rfl)⟩⟩
  · exact ⟨Or.inl rfl, hq 0 h ⟨hm1, (fun k hk => rfl), (Or.inl rfl)⟩⟩
-- ThreadBank$Memory.wipe()V
set_option maxRecDepth 100000 in
set_option maxHeartbeats 4000000 in
theorem sf_22_25 (X : qm_X) (h : qm_H) (hp : True) (Q : qm_Q) (hq : ∀ h' : qm_H, (mq 25 h' ∧ (∀ k, (k < 25 ∨ 25 < k) → h' k = h k)) → Q none h') : qm_PW X 22 [.ref 25] h Q := by
  refine qm_seg_ok (C := qc_22) (rt := none) rfl rfl (cuts := []) 400 _ _ _ _ ?_
  show Q none (qm_row (qm_row (qm_row (qm_row h 25 (upd (h 25) 6 0)) 25 (upd (upd (h 25) 6 0) 7 0)) 25 (upd (upd (upd (h 25) 6 0) 7 0) 8 0)) 25 (upd (upd (upd (upd (h 25) 6 0) 7 0) 8 0) 9 0))
  exact hq (qm_row (qm_row (qm_row (qm_row h 25 (upd (h 25) 6 0)) 25 (upd (upd (h 25) 6 0) 7 0)) 25 (upd (upd (upd (h 25) 6 0) 7 0) 8 0)) 25 (upd (upd (upd (upd (h 25) 6 0) 7 0) 8 0) 9 0)) ⟨(by show (0 ≤ (0 : Int) ∧ (0 : Int) ≤ 4) ∧ (0 ≤ (0 : Int) ∧ (0 : Int) ≤ 10) ∧ (0 ≤ (0 : Int) ∧ (0 : Int) ≤ 6); omega), (fun k hk => by simp only [qm_row]; rw [if_neg (by omega)]; rw [if_neg (by omega)]; rw [if_neg (by omega)]; rw [if_neg (by omega)])⟩
-- ThreadBank$Memory.become(LThreadBank$Memory;)V
set_option maxRecDepth 100000 in
set_option maxHeartbeats 4000000 in
theorem sf_23_1_25 (X : qm_X) (h : qm_H) (hp : mq 25 h) (Q : qm_Q) (hq : ∀ h' : qm_H, (mq 1 h' ∧ (∀ k, (k < 1 ∨ 7 < k) → h' k = h k)) → Q none h') : qm_PW X 23 [.ref 1, .ref 25] h Q := by
  have hm25 : mq 25 h := hp
  have ⟨⟨_, _⟩, ⟨_, _⟩, _, _⟩ := hm25
  refine qm_seg_ok (C := qc_23) (rt := none) rfl rfl (cuts := []) 400 _ _ _ _ ?_
  show ((0 : Int) ≤ 0 ∧ (0 : Int) ≤ 0 ∧ (0 : Int) ≤ 4 ∧ (0 : Int) + 4 ≤ 4 ∧ (0 : Int) + 4 ≤ 4) ∧ (((0 : Int) ≤ 0 ∧ (0 : Int) ≤ 0 ∧ (0 : Int) ≤ 10 ∧ (0 : Int) + 10 ≤ 10 ∧ (0 : Int) + 10 ≤ 10) ∧ (((0 : Int) ≤ 0 ∧ (0 : Int) ≤ 0 ∧ (0 : Int) ≤ 10 ∧ (0 : Int) + 10 ≤ 10 ∧ (0 : Int) + 10 ≤ 10) ∧ (((0 : Int) ≤ 0 ∧ (0 : Int) ≤ 0 ∧ (0 : Int) ≤ 10 ∧ (0 : Int) + 10 ≤ 10 ∧ (0 : Int) + 10 ≤ 10) ∧ (((0 : Int) ≤ 0 ∧ (0 : Int) ≤ 0 ∧ (0 : Int) ≤ 6 ∧ (0 : Int) + 6 ≤ 6 ∧ (0 : Int) + 6 ≤ 6) ∧ (((0 : Int) ≤ 0 ∧ (0 : Int) ≤ 0 ∧ (0 : Int) ≤ 6 ∧ (0 : Int) + 6 ≤ 6 ∧ (0 : Int) + 6 ≤ 6) ∧ (Q none (qm_row (qm_row (qm_row (qm_row (qm_row (qm_row (qm_row (qm_row (qm_row (qm_row h 1 (upd (h 1) 6 (h 25 6))) 1 (upd (upd (h 1) 6 (h 25 6)) 7 (h 25 7))) 1 (upd (upd (upd (h 1) 6 (h 25 6)) 7 (h 25 7)) 8 (h 25 8))) 1 (upd (upd (upd (upd (h 1) 6 (h 25 6)) 7 (h 25 7)) 8 (h 25 8)) 9 (h 25 9))) 2 (va_cpy (h 26) (h 2) 0 0 4)) 3 (va_cpy (h 27) (h 3) 0 0 10)) 4 (va_cpy (h 28) (h 4) 0 0 10)) 5 (va_cpy (h 29) (h 5) 0 0 10)) 6 (va_cpy (h 30) (h 6) 0 0 6)) 7 (va_cpy (h 31) (h 7) 0 0 6))))))))
  refine ⟨by decide, ?_⟩
  refine ⟨by decide, ?_⟩
  refine ⟨by decide, ?_⟩
  refine ⟨by decide, ?_⟩
  refine ⟨by decide, ?_⟩
  refine ⟨by decide, ?_⟩
  exact hq (qm_row (qm_row (qm_row (qm_row (qm_row (qm_row (qm_row (qm_row (qm_row (qm_row h 1 (upd (h 1) 6 (h 25 6))) 1 (upd (upd (h 1) 6 (h 25 6)) 7 (h 25 7))) 1 (upd (upd (upd (h 1) 6 (h 25 6)) 7 (h 25 7)) 8 (h 25 8))) 1 (upd (upd (upd (upd (h 1) 6 (h 25 6)) 7 (h 25 7)) 8 (h 25 8)) 9 (h 25 9))) 2 (va_cpy (h 26) (h 2) 0 0 4)) 3 (va_cpy (h 27) (h 3) 0 0 10)) 4 (va_cpy (h 28) (h 4) 0 0 10)) 5 (va_cpy (h 29) (h 5) 0 0 10)) 6 (va_cpy (h 30) (h 6) 0 0 6)) 7 (va_cpy (h 31) (h 7) 0 0 6)) ⟨(by have ⟨⟨_, _⟩, ⟨_, _⟩, _, _⟩ := hm25; show (0 ≤ (h 25 6).toInt ∧ (h 25 6).toInt ≤ 4) ∧ (0 ≤ (h 25 7).toInt ∧ (h 25 7).toInt ≤ 10) ∧ (0 ≤ (h 25 9).toInt ∧ (h 25 9).toInt ≤ 6); omega), (fun k hk => by simp only [qm_row]; rw [if_neg (by omega)]; rw [if_neg (by omega)]; rw [if_neg (by omega)]; rw [if_neg (by omega)]; rw [if_neg (by omega)]; rw [if_neg (by omega)]; rw [if_neg (by omega)]; rw [if_neg (by omega)]; rw [if_neg (by omega)]; rw [if_neg (by omega)])⟩
-- ThreadBank$Memory.become(LThreadBank$Memory;)V
set_option maxRecDepth 100000 in
set_option maxHeartbeats 4000000 in
theorem sf_23_8_1 (X : qm_X) (h : qm_H) (hp : mq 1 h) (Q : qm_Q) (hq : ∀ h' : qm_H, (mq 8 h' ∧ (∀ k, (k < 8 ∨ 14 < k) → h' k = h k)) → Q none h') : qm_PW X 23 [.ref 8, .ref 1] h Q := by
  have hm1 : mq 1 h := hp
  have ⟨⟨_, _⟩, ⟨_, _⟩, _, _⟩ := hm1
  refine qm_seg_ok (C := qc_23) (rt := none) rfl rfl (cuts := []) 400 _ _ _ _ ?_
  show ((0 : Int) ≤ 0 ∧ (0 : Int) ≤ 0 ∧ (0 : Int) ≤ 4 ∧ (0 : Int) + 4 ≤ 4 ∧ (0 : Int) + 4 ≤ 4) ∧ (((0 : Int) ≤ 0 ∧ (0 : Int) ≤ 0 ∧ (0 : Int) ≤ 10 ∧ (0 : Int) + 10 ≤ 10 ∧ (0 : Int) + 10 ≤ 10) ∧ (((0 : Int) ≤ 0 ∧ (0 : Int) ≤ 0 ∧ (0 : Int) ≤ 10 ∧ (0 : Int) + 10 ≤ 10 ∧ (0 : Int) + 10 ≤ 10) ∧ (((0 : Int) ≤ 0 ∧ (0 : Int) ≤ 0 ∧ (0 : Int) ≤ 10 ∧ (0 : Int) + 10 ≤ 10 ∧ (0 : Int) + 10 ≤ 10) ∧ (((0 : Int) ≤ 0 ∧ (0 : Int) ≤ 0 ∧ (0 : Int) ≤ 6 ∧ (0 : Int) + 6 ≤ 6 ∧ (0 : Int) + 6 ≤ 6) ∧ (((0 : Int) ≤ 0 ∧ (0 : Int) ≤ 0 ∧ (0 : Int) ≤ 6 ∧ (0 : Int) + 6 ≤ 6 ∧ (0 : Int) + 6 ≤ 6) ∧ (Q none (qm_row (qm_row (qm_row (qm_row (qm_row (qm_row (qm_row (qm_row (qm_row (qm_row h 8 (upd (h 8) 6 (h 1 6))) 8 (upd (upd (h 8) 6 (h 1 6)) 7 (h 1 7))) 8 (upd (upd (upd (h 8) 6 (h 1 6)) 7 (h 1 7)) 8 (h 1 8))) 8 (upd (upd (upd (upd (h 8) 6 (h 1 6)) 7 (h 1 7)) 8 (h 1 8)) 9 (h 1 9))) 9 (va_cpy (h 2) (h 9) 0 0 4)) 10 (va_cpy (h 3) (h 10) 0 0 10)) 11 (va_cpy (h 4) (h 11) 0 0 10)) 12 (va_cpy (h 5) (h 12) 0 0 10)) 13 (va_cpy (h 6) (h 13) 0 0 6)) 14 (va_cpy (h 7) (h 14) 0 0 6))))))))
  refine ⟨by decide, ?_⟩
  refine ⟨by decide, ?_⟩
  refine ⟨by decide, ?_⟩
  refine ⟨by decide, ?_⟩
  refine ⟨by decide, ?_⟩
  refine ⟨by decide, ?_⟩
  exact hq (qm_row (qm_row (qm_row (qm_row (qm_row (qm_row (qm_row (qm_row (qm_row (qm_row h 8 (upd (h 8) 6 (h 1 6))) 8 (upd (upd (h 8) 6 (h 1 6)) 7 (h 1 7))) 8 (upd (upd (upd (h 8) 6 (h 1 6)) 7 (h 1 7)) 8 (h 1 8))) 8 (upd (upd (upd (upd (h 8) 6 (h 1 6)) 7 (h 1 7)) 8 (h 1 8)) 9 (h 1 9))) 9 (va_cpy (h 2) (h 9) 0 0 4)) 10 (va_cpy (h 3) (h 10) 0 0 10)) 11 (va_cpy (h 4) (h 11) 0 0 10)) 12 (va_cpy (h 5) (h 12) 0 0 10)) 13 (va_cpy (h 6) (h 13) 0 0 6)) 14 (va_cpy (h 7) (h 14) 0 0 6)) ⟨(by have ⟨⟨_, _⟩, ⟨_, _⟩, _, _⟩ := hm1; show (0 ≤ (h 1 6).toInt ∧ (h 1 6).toInt ≤ 4) ∧ (0 ≤ (h 1 7).toInt ∧ (h 1 7).toInt ≤ 10) ∧ (0 ≤ (h 1 9).toInt ∧ (h 1 9).toInt ≤ 6); omega), (fun k hk => by simp only [qm_row]; rw [if_neg (by omega)]; rw [if_neg (by omega)]; rw [if_neg (by omega)]; rw [if_neg (by omega)]; rw [if_neg (by omega)]; rw [if_neg (by omega)]; rw [if_neg (by omega)]; rw [if_neg (by omega)]; rw [if_neg (by omega)]; rw [if_neg (by omega)])⟩
-- ThreadBank$Memory.become(LThreadBank$Memory;)V
set_option maxRecDepth 100000 in
set_option maxHeartbeats 4000000 in
theorem sf_23_15_1 (X : qm_X) (h : qm_H) (hp : mq 1 h) (Q : qm_Q) (hq : ∀ h' : qm_H, (mq 15 h' ∧ (∀ k, (k < 15 ∨ 21 < k) → h' k = h k)) → Q none h') : qm_PW X 23 [.ref 15, .ref 1] h Q := by
  have hm1 : mq 1 h := hp
  have ⟨⟨_, _⟩, ⟨_, _⟩, _, _⟩ := hm1
  refine qm_seg_ok (C := qc_23) (rt := none) rfl rfl (cuts := []) 400 _ _ _ _ ?_
  show ((0 : Int) ≤ 0 ∧ (0 : Int) ≤ 0 ∧ (0 : Int) ≤ 4 ∧ (0 : Int) + 4 ≤ 4 ∧ (0 : Int) + 4 ≤ 4) ∧ (((0 : Int) ≤ 0 ∧ (0 : Int) ≤ 0 ∧ (0 : Int) ≤ 10 ∧ (0 : Int) + 10 ≤ 10 ∧ (0 : Int) + 10 ≤ 10) ∧ (((0 : Int) ≤ 0 ∧ (0 : Int) ≤ 0 ∧ (0 : Int) ≤ 10 ∧ (0 : Int) + 10 ≤ 10 ∧ (0 : Int) + 10 ≤ 10) ∧ (((0 : Int) ≤ 0 ∧ (0 : Int) ≤ 0 ∧ (0 : Int) ≤ 10 ∧ (0 : Int) + 10 ≤ 10 ∧ (0 : Int) + 10 ≤ 10) ∧ (((0 : Int) ≤ 0 ∧ (0 : Int) ≤ 0 ∧ (0 : Int) ≤ 6 ∧ (0 : Int) + 6 ≤ 6 ∧ (0 : Int) + 6 ≤ 6) ∧ (((0 : Int) ≤ 0 ∧ (0 : Int) ≤ 0 ∧ (0 : Int) ≤ 6 ∧ (0 : Int) + 6 ≤ 6 ∧ (0 : Int) + 6 ≤ 6) ∧ (Q none (qm_row (qm_row (qm_row (qm_row (qm_row (qm_row (qm_row (qm_row (qm_row (qm_row h 15 (upd (h 15) 6 (h 1 6))) 15 (upd (upd (h 15) 6 (h 1 6)) 7 (h 1 7))) 15 (upd (upd (upd (h 15) 6 (h 1 6)) 7 (h 1 7)) 8 (h 1 8))) 15 (upd (upd (upd (upd (h 15) 6 (h 1 6)) 7 (h 1 7)) 8 (h 1 8)) 9 (h 1 9))) 16 (va_cpy (h 2) (h 16) 0 0 4)) 17 (va_cpy (h 3) (h 17) 0 0 10)) 18 (va_cpy (h 4) (h 18) 0 0 10)) 19 (va_cpy (h 5) (h 19) 0 0 10)) 20 (va_cpy (h 6) (h 20) 0 0 6)) 21 (va_cpy (h 7) (h 21) 0 0 6))))))))
  refine ⟨by decide, ?_⟩
  refine ⟨by decide, ?_⟩
  refine ⟨by decide, ?_⟩
  refine ⟨by decide, ?_⟩
  refine ⟨by decide, ?_⟩
  refine ⟨by decide, ?_⟩
  exact hq (qm_row (qm_row (qm_row (qm_row (qm_row (qm_row (qm_row (qm_row (qm_row (qm_row h 15 (upd (h 15) 6 (h 1 6))) 15 (upd (upd (h 15) 6 (h 1 6)) 7 (h 1 7))) 15 (upd (upd (upd (h 15) 6 (h 1 6)) 7 (h 1 7)) 8 (h 1 8))) 15 (upd (upd (upd (upd (h 15) 6 (h 1 6)) 7 (h 1 7)) 8 (h 1 8)) 9 (h 1 9))) 16 (va_cpy (h 2) (h 16) 0 0 4)) 17 (va_cpy (h 3) (h 17) 0 0 10)) 18 (va_cpy (h 4) (h 18) 0 0 10)) 19 (va_cpy (h 5) (h 19) 0 0 10)) 20 (va_cpy (h 6) (h 20) 0 0 6)) 21 (va_cpy (h 7) (h 21) 0 0 6)) ⟨(by have ⟨⟨_, _⟩, ⟨_, _⟩, _, _⟩ := hm1; show (0 ≤ (h 1 6).toInt ∧ (h 1 6).toInt ≤ 4) ∧ (0 ≤ (h 1 7).toInt ∧ (h 1 7).toInt ≤ 10) ∧ (0 ≤ (h 1 9).toInt ∧ (h 1 9).toInt ≤ 6); omega), (fun k hk => by simp only [qm_row]; rw [if_neg (by omega)]; rw [if_neg (by omega)]; rw [if_neg (by omega)]; rw [if_neg (by omega)]; rw [if_neg (by omega)]; rw [if_neg (by omega)]; rw [if_neg (by omega)]; rw [if_neg (by omega)]; rw [if_neg (by omega)]; rw [if_neg (by omega)])⟩
-- ThreadBank$Memory.become(LThreadBank$Memory;)V
set_option maxRecDepth 100000 in
set_option maxHeartbeats 4000000 in
theorem sf_23_1_8 (X : qm_X) (h : qm_H) (hp : mq 8 h) (Q : qm_Q) (hq : ∀ h' : qm_H, (mq 1 h' ∧ (∀ k, (k < 1 ∨ 7 < k) → h' k = h k)) → Q none h') : qm_PW X 23 [.ref 1, .ref 8] h Q := by
  have hm8 : mq 8 h := hp
  have ⟨⟨_, _⟩, ⟨_, _⟩, _, _⟩ := hm8
  refine qm_seg_ok (C := qc_23) (rt := none) rfl rfl (cuts := []) 400 _ _ _ _ ?_
  show ((0 : Int) ≤ 0 ∧ (0 : Int) ≤ 0 ∧ (0 : Int) ≤ 4 ∧ (0 : Int) + 4 ≤ 4 ∧ (0 : Int) + 4 ≤ 4) ∧ (((0 : Int) ≤ 0 ∧ (0 : Int) ≤ 0 ∧ (0 : Int) ≤ 10 ∧ (0 : Int) + 10 ≤ 10 ∧ (0 : Int) + 10 ≤ 10) ∧ (((0 : Int) ≤ 0 ∧ (0 : Int) ≤ 0 ∧ (0 : Int) ≤ 10 ∧ (0 : Int) + 10 ≤ 10 ∧ (0 : Int) + 10 ≤ 10) ∧ (((0 : Int) ≤ 0 ∧ (0 : Int) ≤ 0 ∧ (0 : Int) ≤ 10 ∧ (0 : Int) + 10 ≤ 10 ∧ (0 : Int) + 10 ≤ 10) ∧ (((0 : Int) ≤ 0 ∧ (0 : Int) ≤ 0 ∧ (0 : Int) ≤ 6 ∧ (0 : Int) + 6 ≤ 6 ∧ (0 : Int) + 6 ≤ 6) ∧ (((0 : Int) ≤ 0 ∧ (0 : Int) ≤ 0 ∧ (0 : Int) ≤ 6 ∧ (0 : Int) + 6 ≤ 6 ∧ (0 : Int) + 6 ≤ 6) ∧ (Q none (qm_row (qm_row (qm_row (qm_row (qm_row (qm_row (qm_row (qm_row (qm_row (qm_row h 1 (upd (h 1) 6 (h 8 6))) 1 (upd (upd (h 1) 6 (h 8 6)) 7 (h 8 7))) 1 (upd (upd (upd (h 1) 6 (h 8 6)) 7 (h 8 7)) 8 (h 8 8))) 1 (upd (upd (upd (upd (h 1) 6 (h 8 6)) 7 (h 8 7)) 8 (h 8 8)) 9 (h 8 9))) 2 (va_cpy (h 9) (h 2) 0 0 4)) 3 (va_cpy (h 10) (h 3) 0 0 10)) 4 (va_cpy (h 11) (h 4) 0 0 10)) 5 (va_cpy (h 12) (h 5) 0 0 10)) 6 (va_cpy (h 13) (h 6) 0 0 6)) 7 (va_cpy (h 14) (h 7) 0 0 6))))))))
  refine ⟨by decide, ?_⟩
  refine ⟨by decide, ?_⟩
  refine ⟨by decide, ?_⟩
  refine ⟨by decide, ?_⟩
  refine ⟨by decide, ?_⟩
  refine ⟨by decide, ?_⟩
  exact hq (qm_row (qm_row (qm_row (qm_row (qm_row (qm_row (qm_row (qm_row (qm_row (qm_row h 1 (upd (h 1) 6 (h 8 6))) 1 (upd (upd (h 1) 6 (h 8 6)) 7 (h 8 7))) 1 (upd (upd (upd (h 1) 6 (h 8 6)) 7 (h 8 7)) 8 (h 8 8))) 1 (upd (upd (upd (upd (h 1) 6 (h 8 6)) 7 (h 8 7)) 8 (h 8 8)) 9 (h 8 9))) 2 (va_cpy (h 9) (h 2) 0 0 4)) 3 (va_cpy (h 10) (h 3) 0 0 10)) 4 (va_cpy (h 11) (h 4) 0 0 10)) 5 (va_cpy (h 12) (h 5) 0 0 10)) 6 (va_cpy (h 13) (h 6) 0 0 6)) 7 (va_cpy (h 14) (h 7) 0 0 6)) ⟨(by have ⟨⟨_, _⟩, ⟨_, _⟩, _, _⟩ := hm8; show (0 ≤ (h 8 6).toInt ∧ (h 8 6).toInt ≤ 4) ∧ (0 ≤ (h 8 7).toInt ∧ (h 8 7).toInt ≤ 10) ∧ (0 ≤ (h 8 9).toInt ∧ (h 8 9).toInt ≤ 6); omega), (fun k hk => by simp only [qm_row]; rw [if_neg (by omega)]; rw [if_neg (by omega)]; rw [if_neg (by omega)]; rw [if_neg (by omega)]; rw [if_neg (by omega)]; rw [if_neg (by omega)]; rw [if_neg (by omega)]; rw [if_neg (by omega)]; rw [if_neg (by omega)]; rw [if_neg (by omega)])⟩
-- ThreadBank$Memory.become(LThreadBank$Memory;)V
set_option maxRecDepth 100000 in
set_option maxHeartbeats 4000000 in
theorem sf_23_1_15 (X : qm_X) (h : qm_H) (hp : mq 15 h) (Q : qm_Q) (hq : ∀ h' : qm_H, (mq 1 h' ∧ (∀ k, (k < 1 ∨ 7 < k) → h' k = h k)) → Q none h') : qm_PW X 23 [.ref 1, .ref 15] h Q := by
  have hm15 : mq 15 h := hp
  have ⟨⟨_, _⟩, ⟨_, _⟩, _, _⟩ := hm15
  refine qm_seg_ok (C := qc_23) (rt := none) rfl rfl (cuts := []) 400 _ _ _ _ ?_
  show ((0 : Int) ≤ 0 ∧ (0 : Int) ≤ 0 ∧ (0 : Int) ≤ 4 ∧ (0 : Int) + 4 ≤ 4 ∧ (0 : Int) + 4 ≤ 4) ∧ (((0 : Int) ≤ 0 ∧ (0 : Int) ≤ 0 ∧ (0 : Int) ≤ 10 ∧ (0 : Int) + 10 ≤ 10 ∧ (0 : Int) + 10 ≤ 10) ∧ (((0 : Int) ≤ 0 ∧ (0 : Int) ≤ 0 ∧ (0 : Int) ≤ 10 ∧ (0 : Int) + 10 ≤ 10 ∧ (0 : Int) + 10 ≤ 10) ∧ (((0 : Int) ≤ 0 ∧ (0 : Int) ≤ 0 ∧ (0 : Int) ≤ 10 ∧ (0 : Int) + 10 ≤ 10 ∧ (0 : Int) + 10 ≤ 10) ∧ (((0 : Int) ≤ 0 ∧ (0 : Int) ≤ 0 ∧ (0 : Int) ≤ 6 ∧ (0 : Int) + 6 ≤ 6 ∧ (0 : Int) + 6 ≤ 6) ∧ (((0 : Int) ≤ 0 ∧ (0 : Int) ≤ 0 ∧ (0 : Int) ≤ 6 ∧ (0 : Int) + 6 ≤ 6 ∧ (0 : Int) + 6 ≤ 6) ∧ (Q none (qm_row (qm_row (qm_row (qm_row (qm_row (qm_row (qm_row (qm_row (qm_row (qm_row h 1 (upd (h 1) 6 (h 15 6))) 1 (upd (upd (h 1) 6 (h 15 6)) 7 (h 15 7))) 1 (upd (upd (upd (h 1) 6 (h 15 6)) 7 (h 15 7)) 8 (h 15 8))) 1 (upd (upd (upd (upd (h 1) 6 (h 15 6)) 7 (h 15 7)) 8 (h 15 8)) 9 (h 15 9))) 2 (va_cpy (h 16) (h 2) 0 0 4)) 3 (va_cpy (h 17) (h 3) 0 0 10)) 4 (va_cpy (h 18) (h 4) 0 0 10)) 5 (va_cpy (h 19) (h 5) 0 0 10)) 6 (va_cpy (h 20) (h 6) 0 0 6)) 7 (va_cpy (h 21) (h 7) 0 0 6))))))))
  refine ⟨by decide, ?_⟩
  refine ⟨by decide, ?_⟩
  refine ⟨by decide, ?_⟩
  refine ⟨by decide, ?_⟩
  refine ⟨by decide, ?_⟩
  refine ⟨by decide, ?_⟩
  exact hq (qm_row (qm_row (qm_row (qm_row (qm_row (qm_row (qm_row (qm_row (qm_row (qm_row h 1 (upd (h 1) 6 (h 15 6))) 1 (upd (upd (h 1) 6 (h 15 6)) 7 (h 15 7))) 1 (upd (upd (upd (h 1) 6 (h 15 6)) 7 (h 15 7)) 8 (h 15 8))) 1 (upd (upd (upd (upd (h 1) 6 (h 15 6)) 7 (h 15 7)) 8 (h 15 8)) 9 (h 15 9))) 2 (va_cpy (h 16) (h 2) 0 0 4)) 3 (va_cpy (h 17) (h 3) 0 0 10)) 4 (va_cpy (h 18) (h 4) 0 0 10)) 5 (va_cpy (h 19) (h 5) 0 0 10)) 6 (va_cpy (h 20) (h 6) 0 0 6)) 7 (va_cpy (h 21) (h 7) 0 0 6)) ⟨(by have ⟨⟨_, _⟩, ⟨_, _⟩, _, _⟩ := hm15; show (0 ≤ (h 15 6).toInt ∧ (h 15 6).toInt ≤ 4) ∧ (0 ≤ (h 15 7).toInt ∧ (h 15 7).toInt ≤ 10) ∧ (0 ≤ (h 15 9).toInt ∧ (h 15 9).toInt ≤ 6); omega), (fun k hk => by simp only [qm_row]; rw [if_neg (by omega)]; rw [if_neg (by omega)]; rw [if_neg (by omega)]; rw [if_neg (by omega)]; rw [if_neg (by omega)]; rw [if_neg (by omega)]; rw [if_neg (by omega)]; rw [if_neg (by omega)]; rw [if_neg (by omega)]; rw [if_neg (by omega)])⟩
-- ThreadBank$Memory.tieIfMay(III)I
set_option maxRecDepth 100000 in
set_option maxHeartbeats 4000000 in
theorem sf_47_1 (X : qm_X) (h : qm_H) (a : Int32) (b : Int32) (c : Int32) (hp : mq 1 h) (Q : qm_Q) (hq : ∀ r : Int32, ∀ h' : qm_H, (mq 1 h' ∧ (∀ k, (k < 1 ∨ 7 < k) → h' k = h k)) → Q (some (.int r)) h') : qm_PW X 47 [.ref 1, .int a, .int b, .int c] h Q := by
  have hm1 : mq 1 h := hp
  have ⟨⟨_, _⟩, ⟨_, _⟩, _, _⟩ := hm1
  refine qm_seg_ok (C := qc_47) (rt := some .int) rfl rfl (cuts := []) 400 _ _ _ _ ?_
  show qm_PW X 30 [.ref 1, .int a] h _
  refine sf_30_1 X h a trivial _ (fun r1 p2 => ?_)
  show (r1 = 0 → (Q (some (.int (-1 : Int32))) h)) ∧ (¬ r1 = 0 → (qm_PW X 31 [.ref 1, .int b] h _))
  refine ⟨fun c3 => ?_, fun c4 => ?_⟩
  · exact hq (-1 : Int32) h ⟨hm1, (fun k hk => rfl)⟩
  · refine sf_31_1 X h b trivial _ (fun r5 p6 => ?_)
    show (r5 = 0 → (Q (some (.int (-1 : Int32))) h)) ∧ (¬ r5 = 0 → (qm_PW X 26 [.int c] h _))
    refine ⟨fun c7 => ?_, fun c8 => ?_⟩
    · exact hq (-1 : Int32) h ⟨hm1, (fun k hk => rfl)⟩
    · refine sf_26 X h c trivial _ (fun r9 p10 => ?_)
      show (¬ r9 = 0 → (qm_PW X 40 [.ref 1, .int a] h _)) ∧ (r9 = 0 → (Q (some (.int (-1 : Int32))) h))
      refine ⟨fun c11 => ?_, fun c12 => ?_⟩
      · refine sf_40_1 X h a hm1 _ (fun r13 p14 => ?_)
        show (r13.toInt ≤ 0 → (Q (some (.int (-3 : Int32))) h)) ∧ (0 < r13.toInt → (qm_PW X 45 [.ref 1, .int a, .int b, .int c] h _))
        refine ⟨fun c15 => ?_, fun c16 => ?_⟩
        · exact hq (-3 : Int32) h ⟨hm1, (fun k hk => rfl)⟩
        · refine sf_45_1 X h a b c hm1 _ (fun r17 g18 p19 => ?_)
          have f20 : ∀ k, (k < 1 ∨ 7 < k) → g18 k = h k := fun k hk => (p19.2.1 k (by omega)).trans (rfl)
          show (¬ r17 = 0 → (Q (some (.int ((g18 1 7) - 1))) g18)) ∧ (r17 = 0 → (Q (some (.int (-3 : Int32))) g18))
          refine ⟨fun c21 => ?_, fun c22 => ?_⟩
          · exact hq ((g18 1 7) - 1) g18 ⟨p19.1, (fun k hk => f20 k hk)⟩
          · exact hq (-3 : Int32) g18 ⟨p19.1, (fun k hk => f20 k hk)⟩
      · exact hq (-1 : Int32) h ⟨hm1, (fun k hk => rfl)⟩
-- ThreadBank$Memory.cutThread(I)V
set_option maxRecDepth 100000 in
set_option maxHeartbeats 4000000 in
theorem sf_48_1_c (X : qm_X) (h : qm_H) (a : Int32) (hp : mq 1 h) (Q : qm_Q) (hq : ∀ h' : qm_H, (mq 1 h' ∧ (∀ k, (k < 1 ∨ 7 < k) → h' k = h k)) → Q none h') : ∀ n : Nat, (∀ (l2 : Int32) (g : qm_H), ((0 ≤ l2.toInt ∧ l2.toInt ≤ 10 ∧ 1 ≤ (g 1 7).toInt) ∧ mq 1 g ∧ ∀ k, (k < 1 ∨ 7 < k) → g k = h k) → (10 - l2.toInt).toNat < n → qm_PA X 48 11 [(0, .ref 1), (1, .int a), (2, .int l2)] [] g Q) := by
  have hm1 : mq 1 h := hp
  have ⟨⟨_, _⟩, ⟨_, _⟩, _, _⟩ := hm1
  intro n
  induction n with
  | zero => exact fun _ _ _ h0 => absurd h0 (Nat.not_lt_zero _)
  | succ n ih =>
    intro l2 g hi hr
    obtain ⟨hi0, hg1, hgf⟩ := hi
    have ⟨⟨_, _⟩, ⟨_, _⟩, _, _⟩ := hg1
    refine qm_seg_ok (C := qc_48) (rt := none) rfl rfl (cuts := [(11, [0, 1, 2])]) 400 _ _ _ _ ?_
    show (((g 1 7) - 1).toInt ≤ l2.toInt → (Q none (qm_row g 1 (upd (g 1) 7 ((g 1 7) - 1))))) ∧ (l2.toInt < ((g 1 7) - 1).toInt → ((0 ≤ (l2 + 1).toInt ∧ (l2 + 1).toInt < 10) ∧ ((0 ≤ l2.toInt ∧ l2.toInt < 10) ∧ ((0 ≤ (l2 + 1).toInt ∧ (l2 + 1).toInt < 10) ∧ ((0 ≤ l2.toInt ∧ l2.toInt < 10) ∧ ((0 ≤ (l2 + 1).toInt ∧ (l2 + 1).toInt < 10) ∧ ((0 ≤ l2.toInt ∧ l2.toInt < 10) ∧ (qm_PA X 48 11 [(0, .ref 1), (1, .int a), (2, .int (l2 + 1))] [] (qm_row (qm_row (qm_row g 3 (upd (g 3) l2.toInt.toNat (g 3 (l2 + 1).toInt.toNat))) 4 (upd (g 4) l2.toInt.toNat (g 4 (l2 + 1).toInt.toNat))) 5 (upd (g 5) l2.toInt.toNat (g 5 (l2 + 1).toInt.toNat))) Q))))))))
    refine ⟨fun c1 => ?_, fun c2 => ?_⟩
    · exact hq (qm_row g 1 (upd (g 1) 7 ((g 1 7) - 1))) ⟨(by have ⟨⟨_, _⟩, ⟨_, _⟩, _, _⟩ := hm1; have ⟨⟨_, _⟩, ⟨_, _⟩, _, _⟩ := hg1; show (0 ≤ (g 1 6).toInt ∧ (g 1 6).toInt ≤ 4) ∧ (0 ≤ ((g 1 7) - 1).toInt ∧ ((g 1 7) - 1).toInt ≤ 10) ∧ (0 ≤ (g 1 9).toInt ∧ (g 1 9).toInt ≤ 6); have := ti_subK (g 1 7) (1 : Int32) 1 rfl; omega), (fun k hk => by simp only [qm_row]; rw [if_neg (by omega)]; exact hgf k hk)⟩
    · refine ⟨(by have := ti_addK l2 (1 : Int32) 1 rfl; have := ti_subK (g 1 7) (1 : Int32) 1 rfl; omega), ?_⟩
      refine ⟨(by have := ti_subK (g 1 7) (1 : Int32) 1 rfl; omega), ?_⟩
      refine ⟨(by have := ti_addK l2 (1 : Int32) 1 rfl; have := ti_subK (g 1 7) (1 : Int32) 1 rfl; omega), ?_⟩
      refine ⟨(by have := ti_subK (g 1 7) (1 : Int32) 1 rfl; omega), ?_⟩
      refine ⟨(by have := ti_addK l2 (1 : Int32) 1 rfl; have := ti_subK (g 1 7) (1 : Int32) 1 rfl; omega), ?_⟩
      refine ⟨(by have := ti_subK (g 1 7) (1 : Int32) 1 rfl; omega), ?_⟩
      exact ih (l2 + 1) (qm_row (qm_row (qm_row g 3 (upd (g 3) l2.toInt.toNat (g 3 (l2 + 1).toInt.toNat))) 4 (upd (g 4) l2.toInt.toNat (g 4 (l2 + 1).toInt.toNat))) 5 (upd (g 5) l2.toInt.toNat (g 5 (l2 + 1).toInt.toNat))) ⟨(by have := ti_addK l2 (1 : Int32) 1 rfl; have := ti_subK (g 1 7) (1 : Int32) 1 rfl; show 0 ≤ (l2 + 1).toInt ∧ (l2 + 1).toInt ≤ 10 ∧ 1 ≤ (g 1 7).toInt; omega), (by exact hg1), (fun k hk => by simp only [qm_row]; rw [if_neg (by omega)]; rw [if_neg (by omega)]; rw [if_neg (by omega)]; exact hgf k hk)⟩ (by have := ti_addK l2 (1 : Int32) 1 rfl; have := ti_subK (g 1 7) (1 : Int32) 1 rfl; show (10 - (l2 + 1).toInt).toNat < n; omega)
set_option maxRecDepth 100000 in
set_option maxHeartbeats 4000000 in
theorem sf_48_1 (X : qm_X) (h : qm_H) (a : Int32) (hp : mq 1 h) (Q : qm_Q) (hq : ∀ h' : qm_H, (mq 1 h' ∧ (∀ k, (k < 1 ∨ 7 < k) → h' k = h k)) → Q none h') : qm_PW X 48 [.ref 1, .int a] h Q := by
  have hm1 : mq 1 h := hp
  have ⟨⟨_, _⟩, ⟨_, _⟩, _, _⟩ := hm1
  refine qm_seg_ok (C := qc_48) (rt := none) rfl rfl (cuts := [(11, [0, 1, 2])]) 400 _ _ _ _ ?_
  show qm_PW X 29 [.ref 1, .int a] h _
  refine sf_29_1 X h a trivial _ (fun r1 p2 => ?_)
  show (¬ r1 = 0 → (qm_PA X 48 11 [(0, .ref 1), (1, .int a), (2, .int a)] [] h Q)) ∧ (r1 = 0 → (Q none h))
  refine ⟨fun c3 => ?_, fun c4 => ?_⟩
  · have := p2.2 c3
    exact (sf_48_1_c X h a hp Q hq _) a h ⟨(by show 0 ≤ a.toInt ∧ a.toInt ≤ 10 ∧ 1 ≤ (h 1 7).toInt; omega), hm1, (fun k hk => rfl)⟩ (Nat.lt_succ_self _)
  · exact hq h ⟨hm1, (fun k hk => rfl)⟩
-- ThreadBank$Memory.sameDebt(II)Z
set_option maxRecDepth 100000 in
set_option maxHeartbeats 4000000 in
theorem sf_49_1 (X : qm_X) (h : qm_H) (a : Int32) (b : Int32) (hp : mq 1 h) (Q : qm_Q) (hq : ∀ r : Int32, (r = 0 ∨ r = 1) → Q (some (.int r)) h) : qm_PW X 49 [.ref 1, .int a, .int b] h Q := by
  have hm1 : mq 1 h := hp
  have ⟨⟨_, _⟩, ⟨_, _⟩, _, _⟩ := hm1
  refine qm_seg_ok (C := qc_49) (rt := some .boolean) rfl rfl (cuts := []) 400 _ _ _ _ ?_
  show qm_PW X 29 [.ref 1, .int a] h _
  refine sf_29_1 X h a trivial _ (fun r1 p2 => ?_)
  show (r1 = 0 → (((0 : Int32) = 0 ∨ (0 : Int32) = 1) ∧ Q (some (.int 0)) h)) ∧ (¬ r1 = 0 → (qm_PW X 29 [.ref 1, .int b] h _))
  refine ⟨fun c3 => ?_, fun c4 => ?_⟩
  · exact ⟨Or.inl rfl, hq 0 (Or.inl rfl)⟩
  · have := p2.2 c4
    refine sf_29_1 X h b trivial _ (fun r5 p6 => ?_)
    show (r5 = 0 → (((0 : Int32) = 0 ∨ (0 : Int32) = 1) ∧ Q (some (.int 0)) h)) ∧ (¬ r5 = 0 → ((0 ≤ a.toInt ∧ a.toInt < 10) ∧ ((0 ≤ b.toInt ∧ b.toInt < 10) ∧ ((¬ (h 4 a.toInt.toNat) = (h 4 b.toInt.toNat) → (((0 : Int32) = 0 ∨ (0 : Int32) = 1) ∧ Q (some (.int 0)) h)) ∧ ((h 4 a.toInt.toNat) = (h 4 b.toInt.toNat) → ((0 ≤ a.toInt ∧ a.toInt < 10) ∧ ((0 ≤ b.toInt ∧ b.toInt < 10) ∧ ((¬ (h 5 a.toInt.toNat) = (h 5 b.toInt.toNat) → (((0 : Int32) = 0 ∨ (0 : Int32) = 1) ∧ Q (some (.int 0)) h)) ∧ ((h 5 a.toInt.toNat) = (h 5 b.toInt.toNat) → (((1 : Int32) = 0 ∨ (1 : Int32) = 1) ∧ Q (some (.int 1)) h))))))))))
    refine ⟨fun c7 => ?_, fun c8 => ?_⟩
    · exact ⟨Or.inl rfl, hq 0 (Or.inl rfl)⟩
    · have := p6.2 c8
      refine ⟨(by omega), ?_⟩
      refine ⟨(by omega), ?_⟩
      refine ⟨fun c9 => ?_, fun c10 => ?_⟩
      · exact ⟨Or.inl rfl, hq 0 (Or.inl rfl)⟩
      · refine ⟨(by omega), ?_⟩
        refine ⟨(by omega), ?_⟩
        refine ⟨fun c11 => ?_, fun c12 => ?_⟩
        · exact ⟨Or.inl rfl, hq 0 (Or.inl rfl)⟩
        · exact ⟨Or.inr rfl, hq 1 (Or.inr rfl)⟩
-- ThreadBank$Memory.originalsOf(I)I
set_option maxRecDepth 100000 in
set_option maxHeartbeats 4000000 in
theorem sf_50_1_c (X : qm_X) (h : qm_H) (a : Int32) (hp : mq 1 h) (Q : qm_Q) (hq : ∀ r : Int32, (True) → Q (some (.int r)) h) : ∀ n : Nat, (∀ (l2 : Int32) (l3 : Int32), (0 ≤ l3.toInt) → (a.toInt - l3.toInt).toNat < n → qm_PA X 50 4 [(0, .ref 1), (1, .int a), (2, .int l2), (3, .int l3)] [] h Q) := by
  have hm1 : mq 1 h := hp
  have ⟨⟨_, _⟩, ⟨_, _⟩, _, _⟩ := hm1
  intro n
  induction n with
  | zero => exact fun _ _ _ h0 => absurd h0 (Nat.not_lt_zero _)
  | succ n ih =>
    intro l2 l3 hi hr
    have := ti_rng a
    refine qm_seg_ok (C := qc_50) (rt := some .int) rfl rfl (cuts := [(4, [0, 1, 2, 3])]) 400 _ _ _ _ ?_
    show (a.toInt ≤ l3.toInt → (Q (some (.int l2)) h)) ∧ (l3.toInt < a.toInt → (qm_PW X 49 [.ref 1, .int a, .int l3] h _))
    refine ⟨fun c1 => ?_, fun c2 => ?_⟩
    · exact hq l2 trivial
    · refine sf_49_1 X h a l3 hm1 _ (fun r3 p4 => ?_)
      show (r3 = 0 → (qm_PA X 50 4 [(0, .ref 1), (1, .int a), (2, .int l2), (3, .int (l3 + 1))] [] h Q)) ∧ (¬ r3 = 0 → (qm_PW X 33 [.ref 1, .int a] h _))
      refine ⟨fun c5 => ?_, fun c6 => ?_⟩
      · exact ih l2 (l3 + 1) (by have := ti_addK l3 (1 : Int32) 1 rfl; omega) (by have := ti_addK l3 (1 : Int32) 1 rfl; omega)
      · refine sf_33_1 X h a hm1 _ (fun r7 p8 => ?_)
        show qm_PW X 33 [.ref 1, .int l3] h _
        refine sf_33_1 X h l3 hm1 _ (fun r9 p10 => ?_)
        show (r7 = r9 → (qm_PA X 50 4 [(0, .ref 1), (1, .int a), (2, .int l2), (3, .int (l3 + 1))] [] h Q)) ∧ (¬ r7 = r9 → (qm_PA X 50 4 [(0, .ref 1), (1, .int a), (2, .int (l2 ||| (1 <<< (l3 &&& 31)))), (3, .int (l3 + 1))] [] h Q))
        refine ⟨fun c11 => ?_, fun c12 => ?_⟩
        · exact ih l2 (l3 + 1) (by have := ti_addK l3 (1 : Int32) 1 rfl; omega) (by have := ti_addK l3 (1 : Int32) 1 rfl; omega)
        · exact ih (l2 ||| (1 <<< (l3 &&& 31))) (l3 + 1) (by have := ti_addK l3 (1 : Int32) 1 rfl; omega) (by have := ti_addK l3 (1 : Int32) 1 rfl; omega)
set_option maxRecDepth 100000 in
set_option maxHeartbeats 4000000 in
theorem sf_50_1 (X : qm_X) (h : qm_H) (a : Int32) (hp : mq 1 h) (Q : qm_Q) (hq : ∀ r : Int32, (True) → Q (some (.int r)) h) : qm_PW X 50 [.ref 1, .int a] h Q := by
  have hm1 : mq 1 h := hp
  have ⟨⟨_, _⟩, ⟨_, _⟩, _, _⟩ := hm1
  refine qm_seg_ok (C := qc_50) (rt := some .int) rfl rfl (cuts := [(4, [0, 1, 2, 3])]) 400 _ _ _ _ ?_
  show qm_PA X 50 4 [(0, .ref 1), (1, .int a), (2, .int 0), (3, .int 0)] [] h Q
  exact (sf_50_1_c X h a hp Q hq _) (0 : Int32) (0 : Int32) (by have : (0 : Int32).toInt = 0 := rfl; omega) (Nat.lt_succ_self _)
-- ThreadBank$Memory.isCopy(I)Z
set_option maxRecDepth 100000 in
set_option maxHeartbeats 4000000 in
theorem sf_51_1 (X : qm_X) (h : qm_H) (a : Int32) (hp : mq 1 h) (Q : qm_Q) (hq : ∀ r : Int32, (r = 0 ∨ r = 1) → Q (some (.int r)) h) : qm_PW X 51 [.ref 1, .int a] h Q := by
  have hm1 : mq 1 h := hp
  have ⟨⟨_, _⟩, ⟨_, _⟩, _, _⟩ := hm1
  refine qm_seg_ok (C := qc_51) (rt := some .boolean) rfl rfl (cuts := []) 400 _ _ _ _ ?_
  show qm_PW X 50 [.ref 1, .int a] h _
  refine sf_50_1 X h a hm1 _ (fun r1 p2 => ?_)
  show (r1 = 0 → (((0 : Int32) = 0 ∨ (0 : Int32) = 1) ∧ Q (some (.int 0)) h)) ∧ (¬ r1 = 0 → (((1 : Int32) = 0 ∨ (1 : Int32) = 1) ∧ Q (some (.int 1)) h))
  refine ⟨fun c3 => ?_, fun c4 => ?_⟩
  · exact ⟨Or.inl rfl, hq 0 (Or.inl rfl)⟩
  · exact ⟨Or.inr rfl, hq 1 (Or.inr rfl)⟩
-- ThreadBank$Memory.copiesTied()I
set_option maxRecDepth 100000 in
set_option maxHeartbeats 4000000 in
theorem sf_52_1_c (X : qm_X) (h : qm_H) (hp : mq 1 h) (Q : qm_Q) (hq : ∀ r : Int32, (True) → Q (some (.int r)) h) : ∀ n : Nat, (∀ (l1 : Int32) (l2 : Int32), (0 ≤ l2.toInt ∧ l2.toInt ≤ 10) → (10 - l2.toInt).toNat < n → qm_PA X 52 4 [(0, .ref 1), (1, .int l1), (2, .int l2)] [] h Q) := by
  have hm1 : mq 1 h := hp
  have ⟨⟨_, _⟩, ⟨_, _⟩, _, _⟩ := hm1
  intro n
  induction n with
  | zero => exact fun _ _ _ h0 => absurd h0 (Nat.not_lt_zero _)
  | succ n ih =>
    intro l1 l2 hi hr
    have ti_l2 := ti_rng l2
    refine qm_seg_ok (C := qc_52) (rt := some .int) rfl rfl (cuts := [(4, [0, 1, 2])]) 400 _ _ _ _ ?_
    show ((h 1 7).toInt ≤ l2.toInt → (Q (some (.int l1)) h)) ∧ (l2.toInt < (h 1 7).toInt → (qm_PW X 51 [.ref 1, .int l2] h _))
    refine ⟨fun c1 => ?_, fun c2 => ?_⟩
    · exact hq l1 trivial
    · refine sf_51_1 X h l2 hm1 _ (fun r3 p4 => ?_)
      show (r3 = 0 → (qm_PA X 52 4 [(0, .ref 1), (1, .int l1), (2, .int (l2 + 1))] [] h Q)) ∧ (¬ r3 = 0 → (qm_PA X 52 4 [(0, .ref 1), (1, .int (l1 + 1)), (2, .int (l2 + 1))] [] h Q))
      refine ⟨fun c5 => ?_, fun c6 => ?_⟩
      · exact ih l1 (l2 + 1) (by have := ti_addK l2 (1 : Int32) 1 rfl; omega) (by have := ti_addK l2 (1 : Int32) 1 rfl; omega)
      · exact ih (l1 + 1) (l2 + 1) (by have := ti_addK l2 (1 : Int32) 1 rfl; omega) (by have := ti_addK l2 (1 : Int32) 1 rfl; omega)
set_option maxRecDepth 100000 in
set_option maxHeartbeats 4000000 in
theorem sf_52_1 (X : qm_X) (h : qm_H) (hp : mq 1 h) (Q : qm_Q) (hq : ∀ r : Int32, (True) → Q (some (.int r)) h) : qm_PW X 52 [.ref 1] h Q := by
  have hm1 : mq 1 h := hp
  have ⟨⟨_, _⟩, ⟨_, _⟩, _, _⟩ := hm1
  refine qm_seg_ok (C := qc_52) (rt := some .int) rfl rfl (cuts := [(4, [0, 1, 2])]) 400 _ _ _ _ ?_
  show qm_PA X 52 4 [(0, .ref 1), (1, .int 0), (2, .int 0)] [] h Q
  exact (sf_52_1_c X h hp Q hq _) (0 : Int32) (0 : Int32) (by have : (0 : Int32).toInt = 0 := rfl; omega) (Nat.lt_succ_self _)
-- ThreadBank$Memory.owedBy(II)I
set_option maxRecDepth 100000 in
set_option maxHeartbeats 4000000 in
theorem sf_53_1_c (X : qm_X) (h : qm_H) (a : Int32) (b : Int32) (hp : mq 1 h) (Q : qm_Q) (hq : ∀ r : Int32, (True) → Q (some (.int r)) h) : ∀ n : Nat, (∀ (l3 : Int32) (l4 : Int32), (0 ≤ l4.toInt ∧ l4.toInt ≤ 10) → (10 - l4.toInt).toNat < n → qm_PA X 53 5 [(0, .ref 1), (1, .int a), (2, .int b), (3, .int l3), (4, .int l4)] [] h Q) := by
  have hm1 : mq 1 h := hp
  have ⟨⟨_, _⟩, ⟨_, _⟩, _, _⟩ := hm1
  intro n
  induction n with
  | zero => exact fun _ _ _ h0 => absurd h0 (Nat.not_lt_zero _)
  | succ n ih =>
    intro l3 l4 hi hr
    have ti_l4 := ti_rng l4
    refine qm_seg_ok (C := qc_53) (rt := some .int) rfl rfl (cuts := [(5, [0, 1, 2, 3, 4])]) 400 _ _ _ _ ?_
    show ((h 1 7).toInt ≤ l4.toInt → (Q (some (.int l3)) h)) ∧ (l4.toInt < (h 1 7).toInt → ((0 ≤ l4.toInt ∧ l4.toInt < 10) ∧ ((¬ (h 4 l4.toInt.toNat) = a → (qm_PA X 53 5 [(0, .ref 1), (1, .int a), (2, .int b), (3, .int l3), (4, .int (l4 + 1))] [] h Q)) ∧ ((h 4 l4.toInt.toNat) = a → ((0 ≤ l4.toInt ∧ l4.toInt < 10) ∧ (¬ (10 : Int32) = 0 ∧ ((b.toInt < ((h 5 l4.toInt.toNat) - (h 5 l4.toInt.toNat) / 10 * 10).toInt → (qm_PA X 53 5 [(0, .ref 1), (1, .int a), (2, .int b), (3, .int l3), (4, .int (l4 + 1))] [] h Q)) ∧ (((h 5 l4.toInt.toNat) - (h 5 l4.toInt.toNat) / 10 * 10).toInt ≤ b.toInt → (qm_PW X 51 [.ref 1, .int l4] h _)))))))))
    refine ⟨fun c1 => ?_, fun c2 => ?_⟩
    · exact hq l3 trivial
    · refine ⟨(by omega), ?_⟩
      refine ⟨fun c3 => ?_, fun c4 => ?_⟩
      · exact ih l3 (l4 + 1) (by have := ti_addK l4 (1 : Int32) 1 rfl; omega) (by have := ti_addK l4 (1 : Int32) 1 rfl; omega)
      · refine ⟨(by omega), ?_⟩
        refine ⟨by decide, ?_⟩
        refine ⟨fun c5 => ?_, fun c6 => ?_⟩
        · exact ih l3 (l4 + 1) (by have := ti_addK l4 (1 : Int32) 1 rfl; have := ti_rem (10 : Int32) 10 rfl (h 5 l4.toInt.toNat) (by decide); omega) (by have := ti_addK l4 (1 : Int32) 1 rfl; have := ti_rem (10 : Int32) 10 rfl (h 5 l4.toInt.toNat) (by decide); omega)
        · refine sf_51_1 X h l4 hm1 _ (fun r7 p8 => ?_)
          show (¬ r7 = 0 → (qm_PA X 53 5 [(0, .ref 1), (1, .int a), (2, .int b), (3, .int l3), (4, .int (l4 + 1))] [] h Q)) ∧ (r7 = 0 → ((0 ≤ l4.toInt ∧ l4.toInt < 10) ∧ (¬ (10 : Int32) = 0 ∧ (qm_PA X 53 5 [(0, .ref 1), (1, .int a), (2, .int b), (3, .int (l3 + ((h 5 l4.toInt.toNat) / 10))), (4, .int (l4 + 1))] [] h Q))))
          refine ⟨fun c9 => ?_, fun c10 => ?_⟩
          · exact ih l3 (l4 + 1) (by have := ti_addK l4 (1 : Int32) 1 rfl; have := ti_rem (10 : Int32) 10 rfl (h 5 l4.toInt.toNat) (by decide); omega) (by have := ti_addK l4 (1 : Int32) 1 rfl; have := ti_rem (10 : Int32) 10 rfl (h 5 l4.toInt.toNat) (by decide); omega)
          · refine ⟨(by have := ti_rem (10 : Int32) 10 rfl (h 5 l4.toInt.toNat) (by decide); omega), ?_⟩
            refine ⟨by decide, ?_⟩
            exact ih (l3 + ((h 5 l4.toInt.toNat) / 10)) (l4 + 1) (by have := ti_addK l4 (1 : Int32) 1 rfl; have := ti_rem (10 : Int32) 10 rfl (h 5 l4.toInt.toNat) (by decide); omega) (by have := ti_addK l4 (1 : Int32) 1 rfl; have := ti_rem (10 : Int32) 10 rfl (h 5 l4.toInt.toNat) (by decide); omega)
set_option maxRecDepth 100000 in
set_option maxHeartbeats 4000000 in
theorem sf_53_1 (X : qm_X) (h : qm_H) (a : Int32) (b : Int32) (hp : mq 1 h) (Q : qm_Q) (hq : ∀ r : Int32, (True) → Q (some (.int r)) h) : qm_PW X 53 [.ref 1, .int a, .int b] h Q := by
  have hm1 : mq 1 h := hp
  have ⟨⟨_, _⟩, ⟨_, _⟩, _, _⟩ := hm1
  refine qm_seg_ok (C := qc_53) (rt := some .int) rfl rfl (cuts := [(5, [0, 1, 2, 3, 4])]) 400 _ _ _ _ ?_
  show qm_PA X 53 5 [(0, .ref 1), (1, .int a), (2, .int b), (3, .int 0), (4, .int 0)] [] h Q
  exact (sf_53_1_c X h a b hp Q hq _) (0 : Int32) (0 : Int32) (by have : (0 : Int32).toInt = 0 := rfl; omega) (Nat.lt_succ_self _)
-- ThreadBank$Memory.owedInAll(I)I
set_option maxRecDepth 100000 in
set_option maxHeartbeats 4000000 in
theorem sf_54_1_c (X : qm_X) (h : qm_H) (a : Int32) (hp : mq 1 h) (Q : qm_Q) (hq : ∀ r : Int32, (True) → Q (some (.int r)) h) : ∀ n : Nat, (∀ (l2 : Int32) (l3 : Int32), (0 ≤ l3.toInt ∧ l3.toInt ≤ 4) → ((4 - l3.toInt) * 100 + 50).toNat < n → qm_PA X 54 4 [(0, .ref 1), (1, .int a), (2, .int l2), (3, .int l3)] [] h Q) ∧ (∀ (l2 : Int32) (l3 : Int32) (l4 : Int32), (0 ≤ l3.toInt ∧ l3.toInt ≤ 3 ∧ 0 ≤ l4.toInt ∧ l4.toInt ≤ 4) → ((4 - l3.toInt) * 100 + 40 - l4.toInt).toNat < n → qm_PA X 54 15 [(0, .ref 1), (1, .int a), (2, .int l2), (3, .int l3), (4, .int l4)] [] h Q) := by
  have hm1 : mq 1 h := hp
  have ⟨⟨_, _⟩, ⟨_, _⟩, _, _⟩ := hm1
  intro n
  induction n with
  | zero => exact ⟨fun _ _ _ h0 => absurd h0 (Nat.not_lt_zero _), fun _ _ _ _ h0 => absurd h0 (Nat.not_lt_zero _)⟩
  | succ n ih =>
    refine ⟨?_, ?_⟩
    · intro l2 l3 hi hr
      refine qm_seg_ok (C := qc_54) (rt := some .int) rfl rfl (cuts := [(4, [0, 1, 2, 3]), (15, [0, 1, 2, 3, 4])]) 400 _ _ _ _ ?_
      show ((h 1 6).toInt ≤ l3.toInt → (Q (some (.int l2)) h)) ∧ (l3.toInt < (h 1 6).toInt → (qm_PA X 54 15 [(0, .ref 1), (1, .int a), (2, .int l2), (3, .int l3), (4, .int 0)] [] h Q))
      refine ⟨fun c1 => ?_, fun c2 => ?_⟩
      · exact hq l2 trivial
      · exact ih.2 l2 l3 (0 : Int32) (by have : (0 : Int32).toInt = 0 := rfl; omega) (by have : (0 : Int32).toInt = 0 := rfl; omega)
    · intro l2 l3 l4 hi hr
      refine qm_seg_ok (C := qc_54) (rt := some .int) rfl rfl (cuts := [(4, [0, 1, 2, 3]), (15, [0, 1, 2, 3, 4])]) 400 _ _ _ _ ?_
      show ((h 1 6).toInt ≤ l4.toInt → (qm_PA X 54 4 [(0, .ref 1), (1, .int a), (2, .int l2), (3, .int (l3 + 1))] [] h Q)) ∧ (l4.toInt < (h 1 6).toInt → (qm_PW X 53 [.ref 1, .int ((10 * l3) + l4), .int a] h _))
      refine ⟨fun c1 => ?_, fun c2 => ?_⟩
      · exact ih.1 l2 (l3 + 1) (by have := ti_addK l3 (1 : Int32) 1 rfl; omega) (by have := ti_addK l3 (1 : Int32) 1 rfl; omega)
      · refine sf_53_1 X h ((10 * l3) + l4) a hm1 _ (fun r3 p4 => ?_)
        show qm_PA X 54 15 [(0, .ref 1), (1, .int a), (2, .int (l2 + r3)), (3, .int l3), (4, .int (l4 + 1))] [] h Q
        exact ih.2 (l2 + r3) l3 (l4 + 1) (by have := ti_addK l4 (1 : Int32) 1 rfl; omega) (by have := ti_addK l4 (1 : Int32) 1 rfl; omega)
set_option maxRecDepth 100000 in
set_option maxHeartbeats 4000000 in
theorem sf_54_1 (X : qm_X) (h : qm_H) (a : Int32) (hp : mq 1 h) (Q : qm_Q) (hq : ∀ r : Int32, (True) → Q (some (.int r)) h) : qm_PW X 54 [.ref 1, .int a] h Q := by
  have hm1 : mq 1 h := hp
  have ⟨⟨_, _⟩, ⟨_, _⟩, _, _⟩ := hm1
  refine qm_seg_ok (C := qc_54) (rt := some .int) rfl rfl (cuts := [(4, [0, 1, 2, 3]), (15, [0, 1, 2, 3, 4])]) 400 _ _ _ _ ?_
  show qm_PA X 54 4 [(0, .ref 1), (1, .int a), (2, .int 0), (3, .int 0)] [] h Q
  exact (sf_54_1_c X h a hp Q hq _).1 (0 : Int32) (0 : Int32) (by have : (0 : Int32).toInt = 0 := rfl; omega) (Nat.lt_succ_self _)
-- ThreadBank$Memory.netOf(I)I
set_option maxRecDepth 100000 in
set_option maxHeartbeats 4000000 in
theorem sf_55_1_c (X : qm_X) (h : qm_H) (a : Int32) (hp : mq 1 h) (Q : qm_Q) (hq : ∀ r : Int32, (True) → Q (some (.int r)) h) : ∀ n : Nat, (∀ (l2 : Int32) (l3 : Int32), (0 ≤ l3.toInt ∧ l3.toInt ≤ 4) → (4 - l3.toInt).toNat < n → qm_PA X 55 4 [(0, .ref 1), (1, .int a), (2, .int l2), (3, .int l3)] [] h Q) := by
  have hm1 : mq 1 h := hp
  have ⟨⟨_, _⟩, ⟨_, _⟩, _, _⟩ := hm1
  intro n
  induction n with
  | zero => exact fun _ _ _ h0 => absurd h0 (Nat.not_lt_zero _)
  | succ n ih =>
    intro l2 l3 hi hr
    have ti_l3 := ti_rng l3
    refine qm_seg_ok (C := qc_55) (rt := some .int) rfl rfl (cuts := [(4, [0, 1, 2, 3])]) 400 _ _ _ _ ?_
    show ((h 1 6).toInt ≤ l3.toInt → (Q (some (.int l2)) h)) ∧ (l3.toInt < (h 1 6).toInt → (qm_PW X 53 [.ref 1, .int ((10 * l3) + a), .int 9] h _))
    refine ⟨fun c1 => ?_, fun c2 => ?_⟩
    · exact hq l2 trivial
    · refine sf_53_1 X h ((10 * l3) + a) (9 : Int32) hm1 _ (fun r3 p4 => ?_)
      show qm_PW X 53 [.ref 1, .int ((10 * a) + l3), .int 9] h _
      refine sf_53_1 X h ((10 * a) + l3) (9 : Int32) hm1 _ (fun r5 p6 => ?_)
      show qm_PA X 55 4 [(0, .ref 1), (1, .int a), (2, .int ((l2 + r3) - r5)), (3, .int (l3 + 1))] [] h Q
      exact ih ((l2 + r3) - r5) (l3 + 1) (by have := ti_addK l3 (1 : Int32) 1 rfl; omega) (by have := ti_addK l3 (1 : Int32) 1 rfl; omega)
set_option maxRecDepth 100000 in
set_option maxHeartbeats 4000000 in
theorem sf_55_1 (X : qm_X) (h : qm_H) (a : Int32) (hp : mq 1 h) (Q : qm_Q) (hq : ∀ r : Int32, (True) → Q (some (.int r)) h) : qm_PW X 55 [.ref 1, .int a] h Q := by
  have hm1 : mq 1 h := hp
  have ⟨⟨_, _⟩, ⟨_, _⟩, _, _⟩ := hm1
  refine qm_seg_ok (C := qc_55) (rt := some .int) rfl rfl (cuts := [(4, [0, 1, 2, 3])]) 400 _ _ _ _ ?_
  show qm_PA X 55 4 [(0, .ref 1), (1, .int a), (2, .int 0), (3, .int 0)] [] h Q
  exact (sf_55_1_c X h a hp Q hq _) (0 : Int32) (0 : Int32) (by have : (0 : Int32).toInt = 0 := rfl; omega) (Nat.lt_succ_self _)
-- ThreadBank$Memory.noteOriginals([I)V
set_option maxRecDepth 100000 in
set_option maxHeartbeats 4000000 in
theorem sf_56_1_38_c (X : qm_X) (h : qm_H) (hp : mq 1 h) (Q : qm_Q) (hq : ∀ h' : qm_H, ((∀ k, (k < 38 ∨ 38 < k) → h' k = h k)) → Q none h') : ∀ n : Nat, (∀ (l2 : Int32) (g : qm_H), ((0 ≤ l2.toInt ∧ l2.toInt ≤ 10) ∧ mq 1 g ∧ ∀ k, (k < 38 ∨ 38 < k) → g k = h k) → (10 - l2.toInt).toNat < n → qm_PA X 56 2 [(0, .ref 1), (1, .ref 38), (2, .int l2)] [] g Q) := by
  have hm1 : mq 1 h := hp
  have ⟨⟨_, _⟩, ⟨_, _⟩, _, _⟩ := hm1
  intro n
  induction n with
  | zero => exact fun _ _ _ h0 => absurd h0 (Nat.not_lt_zero _)
  | succ n ih =>
    intro l2 g hi hr
    obtain ⟨hi0, hg1, hgf⟩ := hi
    have ⟨⟨_, _⟩, ⟨_, _⟩, _, _⟩ := hg1
    refine qm_seg_ok (C := qc_56) (rt := none) rfl rfl (cuts := [(2, [0, 1, 2])]) 400 _ _ _ _ ?_
    show ((g 1 7).toInt ≤ l2.toInt → (Q none g)) ∧ (l2.toInt < (g 1 7).toInt → ((10 ≤ l2.toInt → (Q none g)) ∧ (l2.toInt < 10 → (qm_PW X 50 [.ref 1, .int l2] g _))))
    refine ⟨fun c1 => ?_, fun c2 => ?_⟩
    · exact hq g (fun k hk => hgf k hk)
    · refine ⟨fun c3 => ?_, fun c4 => ?_⟩
      · exact hq g (fun k hk => hgf k hk)
      · refine sf_50_1 X g l2 hg1 _ (fun r5 p6 => ?_)
        show (0 ≤ l2.toInt ∧ l2.toInt < 10) ∧ (qm_PA X 56 2 [(0, .ref 1), (1, .ref 38), (2, .int (l2 + 1))] [] (qm_row g 38 (upd (g 38) l2.toInt.toNat r5)) Q)
        refine ⟨(by omega), ?_⟩
        exact ih (l2 + 1) (qm_row g 38 (upd (g 38) l2.toInt.toNat r5)) ⟨(by have := ti_addK l2 (1 : Int32) 1 rfl; show 0 ≤ (l2 + 1).toInt ∧ (l2 + 1).toInt ≤ 10; omega), (by exact hg1), (fun k hk => by simp only [qm_row]; rw [if_neg (by omega)]; exact hgf k hk)⟩ (by have := ti_addK l2 (1 : Int32) 1 rfl; show (10 - (l2 + 1).toInt).toNat < n; omega)
set_option maxRecDepth 100000 in
set_option maxHeartbeats 4000000 in
theorem sf_56_1_38 (X : qm_X) (h : qm_H) (hp : mq 1 h) (Q : qm_Q) (hq : ∀ h' : qm_H, ((∀ k, (k < 38 ∨ 38 < k) → h' k = h k)) → Q none h') : qm_PW X 56 [.ref 1, .ref 38] h Q := by
  have hm1 : mq 1 h := hp
  have ⟨⟨_, _⟩, ⟨_, _⟩, _, _⟩ := hm1
  refine qm_seg_ok (C := qc_56) (rt := none) rfl rfl (cuts := [(2, [0, 1, 2])]) 400 _ _ _ _ ?_
  show qm_PA X 56 2 [(0, .ref 1), (1, .ref 38), (2, .int 0)] [] h Q
  exact (sf_56_1_38_c X h hp Q hq _) (0 : Int32) h ⟨(by have : (0 : Int32).toInt = 0 := rfl; show 0 ≤ (0 : Int32).toInt ∧ (0 : Int32).toInt ≤ 10; omega), hm1, (fun k hk => rfl)⟩ (Nat.lt_succ_self _)
-- ThreadBank$Memory.owedWithout(II[I)I
set_option maxRecDepth 100000 in
set_option maxHeartbeats 4000000 in
theorem sf_57_1_38_c (X : qm_X) (h : qm_H) (a : Int32) (b : Int32) (hp : mq 1 h) (Q : qm_Q) (hq : ∀ r : Int32, (True) → Q (some (.int r)) h) : ∀ n : Nat, (∀ (l4 : Int32) (l5 : Int32), (0 ≤ l5.toInt ∧ l5.toInt ≤ 10) → (10 - l5.toInt).toNat < n → qm_PA X 57 6 [(0, .ref 1), (1, .int a), (2, .int b), (3, .ref 38), (4, .int l4), (5, .int l5)] [] h Q) := by
  have hm1 : mq 1 h := hp
  have ⟨⟨_, _⟩, ⟨_, _⟩, _, _⟩ := hm1
  intro n
  induction n with
  | zero => exact fun _ _ _ h0 => absurd h0 (Nat.not_lt_zero _)
  | succ n ih =>
    intro l4 l5 hi hr
    have ti_l5 := ti_rng l5
    refine qm_seg_ok (C := qc_57) (rt := some .int) rfl rfl (cuts := [(6, [0, 1, 2, 3, 4, 5])]) 400 _ _ _ _ ?_
    show ((h 1 7).toInt ≤ l5.toInt → (Q (some (.int l4)) h)) ∧ (l5.toInt < (h 1 7).toInt → ((10 ≤ l5.toInt → (Q (some (.int l4)) h)) ∧ (l5.toInt < 10 → ((0 ≤ l5.toInt ∧ l5.toInt < 10) ∧ ((¬ (h 4 l5.toInt.toNat) = b → (qm_PA X 57 6 [(0, .ref 1), (1, .int a), (2, .int b), (3, .ref 38), (4, .int l4), (5, .int (l5 + 1))] [] h Q)) ∧ ((h 4 l5.toInt.toNat) = b → (qm_PW X 138 [.int a, .int l5] h _)))))))
    refine ⟨fun c1 => ?_, fun c2 => ?_⟩
    · exact hq l4 trivial
    · refine ⟨fun c3 => ?_, fun c4 => ?_⟩
      · exact hq l4 trivial
      · refine ⟨(by omega), ?_⟩
        refine ⟨fun c5 => ?_, fun c6 => ?_⟩
        · exact ih l4 (l5 + 1) (by have := ti_addK l5 (1 : Int32) 1 rfl; omega) (by have := ti_addK l5 (1 : Int32) 1 rfl; omega)
        · refine sf_138 X h a l5 trivial _ (fun r7 p8 => ?_)
          show (¬ r7 = 0 → (qm_PA X 57 6 [(0, .ref 1), (1, .int a), (2, .int b), (3, .ref 38), (4, .int l4), (5, .int (l5 + 1))] [] h Q)) ∧ (r7 = 0 → ((0 ≤ l5.toInt ∧ l5.toInt < 10) ∧ ((¬ ((h 38 l5.toInt.toNat) &&& (a ^^^ (-1 : Int32))) = 0 → (qm_PA X 57 6 [(0, .ref 1), (1, .int a), (2, .int b), (3, .ref 38), (4, .int l4), (5, .int (l5 + 1))] [] h Q)) ∧ (((h 38 l5.toInt.toNat) &&& (a ^^^ (-1 : Int32))) = 0 → ((0 ≤ l5.toInt ∧ l5.toInt < 10) ∧ (¬ (10 : Int32) = 0 ∧ (qm_PA X 57 6 [(0, .ref 1), (1, .int a), (2, .int b), (3, .ref 38), (4, .int (l4 + ((h 5 l5.toInt.toNat) / 10))), (5, .int (l5 + 1))] [] h Q)))))))
          refine ⟨fun c9 => ?_, fun c10 => ?_⟩
          · exact ih l4 (l5 + 1) (by have := ti_addK l5 (1 : Int32) 1 rfl; omega) (by have := ti_addK l5 (1 : Int32) 1 rfl; omega)
          · refine ⟨(by omega), ?_⟩
            refine ⟨fun c11 => ?_, fun c12 => ?_⟩
            · exact ih l4 (l5 + 1) (by have := ti_addK l5 (1 : Int32) 1 rfl; omega) (by have := ti_addK l5 (1 : Int32) 1 rfl; omega)
            · refine ⟨(by omega), ?_⟩
              refine ⟨by decide, ?_⟩
              exact ih (l4 + ((h 5 l5.toInt.toNat) / 10)) (l5 + 1) (by have := ti_addK l5 (1 : Int32) 1 rfl; omega) (by have := ti_addK l5 (1 : Int32) 1 rfl; omega)
set_option maxRecDepth 100000 in
set_option maxHeartbeats 4000000 in
theorem sf_57_1_38 (X : qm_X) (h : qm_H) (a : Int32) (b : Int32) (hp : mq 1 h) (Q : qm_Q) (hq : ∀ r : Int32, (True) → Q (some (.int r)) h) : qm_PW X 57 [.ref 1, .int a, .int b, .ref 38] h Q := by
  have hm1 : mq 1 h := hp
  have ⟨⟨_, _⟩, ⟨_, _⟩, _, _⟩ := hm1
  refine qm_seg_ok (C := qc_57) (rt := some .int) rfl rfl (cuts := [(6, [0, 1, 2, 3, 4, 5])]) 400 _ _ _ _ ?_
  show qm_PA X 57 6 [(0, .ref 1), (1, .int a), (2, .int b), (3, .ref 38), (4, .int 0), (5, .int 0)] [] h Q
  exact (sf_57_1_38_c X h a b hp Q hq _) (0 : Int32) (0 : Int32) (by have : (0 : Int32).toInt = 0 := rfl; omega) (Nat.lt_succ_self _)
-- ThreadBank$Memory.isAsSeen(I[I)Z
set_option maxRecDepth 100000 in
set_option maxHeartbeats 4000000 in
theorem sf_58_1_38_c (X : qm_X) (h : qm_H) (a : Int32) (hp : mq 1 h) (Q : qm_Q) (hq : ∀ r : Int32, (r = 0 ∨ r = 1) → Q (some (.int r)) h) : ∀ n : Nat, (∀ (l3 : Int32), (0 ≤ l3.toInt ∧ l3.toInt ≤ 6) → (6 - l3.toInt).toNat < n → qm_PA X 58 2 [(0, .ref 1), (1, .int a), (2, .ref 38), (3, .int l3)] [] h Q) := by
  have hm1 : mq 1 h := hp
  have ⟨⟨_, _⟩, ⟨_, _⟩, _, _⟩ := hm1
  intro n
  induction n with
  | zero => exact fun _ _ h0 => absurd h0 (Nat.not_lt_zero _)
  | succ n ih =>
    intro l3 hi hr
    have ti_l3 := ti_rng l3
    refine qm_seg_ok (C := qc_58) (rt := some .boolean) rfl rfl (cuts := [(2, [0, 1, 2, 3])]) 400 _ _ _ _ ?_
    show ((h 1 9).toInt ≤ l3.toInt → (((1 : Int32) = 0 ∨ (1 : Int32) = 1) ∧ Q (some (.int 1)) h)) ∧ (l3.toInt < (h 1 9).toInt → ((0 ≤ l3.toInt ∧ l3.toInt < 6) ∧ (qm_PW X 57 [.ref 1, .int a, .int (h 6 l3.toInt.toNat), .ref 38] h _)))
    refine ⟨fun c1 => ?_, fun c2 => ?_⟩
    · exact ⟨Or.inr rfl, hq 1 (Or.inr rfl)⟩
    · refine ⟨(by omega), ?_⟩
      refine sf_57_1_38 X h a (h 6 l3.toInt.toNat) hm1 _ (fun r3 p4 => ?_)
      show (0 ≤ l3.toInt ∧ l3.toInt < 6) ∧ ((r3 = (h 7 l3.toInt.toNat) → (qm_PA X 58 2 [(0, .ref 1), (1, .int a), (2, .ref 38), (3, .int (l3 + 1))] [] h Q)) ∧ (¬ r3 = (h 7 l3.toInt.toNat) → (((0 : Int32) = 0 ∨ (0 : Int32) = 1) ∧ Q (some (.int 0)) h)))
      refine ⟨(by omega), ?_⟩
      refine ⟨fun c5 => ?_, fun c6 => ?_⟩
      · exact ih (l3 + 1) (by have := ti_addK l3 (1 : Int32) 1 rfl; omega) (by have := ti_addK l3 (1 : Int32) 1 rfl; omega)
      · exact ⟨Or.inl rfl, hq 0 (Or.inl rfl)⟩
set_option maxRecDepth 100000 in
set_option maxHeartbeats 4000000 in
theorem sf_58_1_38 (X : qm_X) (h : qm_H) (a : Int32) (hp : mq 1 h) (Q : qm_Q) (hq : ∀ r : Int32, (r = 0 ∨ r = 1) → Q (some (.int r)) h) : qm_PW X 58 [.ref 1, .int a, .ref 38] h Q := by
  have hm1 : mq 1 h := hp
  have ⟨⟨_, _⟩, ⟨_, _⟩, _, _⟩ := hm1
  refine qm_seg_ok (C := qc_58) (rt := some .boolean) rfl rfl (cuts := [(2, [0, 1, 2, 3])]) 400 _ _ _ _ ?_
  show qm_PA X 58 2 [(0, .ref 1), (1, .int a), (2, .ref 38), (3, .int 0)] [] h Q
  exact (sf_58_1_38_c X h a hp Q hq _) (0 : Int32) (by have : (0 : Int32).toInt = 0 := rfl; omega) (Nat.lt_succ_self _)
-- ThreadBank$Memory.isFirstOfDebt(I)Z
set_option maxRecDepth 100000 in
set_option maxHeartbeats 4000000 in
theorem sf_59_1_c (X : qm_X) (h : qm_H) (a : Int32) (hp : mq 1 h) (Q : qm_Q) (hq : ∀ r : Int32, (r = 0 ∨ r = 1) → Q (some (.int r)) h) : ∀ n : Nat, (∀ (l2 : Int32), (0 ≤ l2.toInt) → (a.toInt - l2.toInt).toNat < n → qm_PA X 59 2 [(0, .ref 1), (1, .int a), (2, .int l2)] [] h Q) := by
  have hm1 : mq 1 h := hp
  have ⟨⟨_, _⟩, ⟨_, _⟩, _, _⟩ := hm1
  intro n
  induction n with
  | zero => exact fun _ _ h0 => absurd h0 (Nat.not_lt_zero _)
  | succ n ih =>
    intro l2 hi hr
    have := ti_rng a
    refine qm_seg_ok (C := qc_59) (rt := some .boolean) rfl rfl (cuts := [(2, [0, 1, 2])]) 400 _ _ _ _ ?_
    show (a.toInt ≤ l2.toInt → (((1 : Int32) = 0 ∨ (1 : Int32) = 1) ∧ Q (some (.int 1)) h)) ∧ (l2.toInt < a.toInt → (qm_PW X 49 [.ref 1, .int a, .int l2] h _))
    refine ⟨fun c1 => ?_, fun c2 => ?_⟩
    · exact ⟨Or.inr rfl, hq 1 (Or.inr rfl)⟩
    · refine sf_49_1 X h a l2 hm1 _ (fun r3 p4 => ?_)
      show (r3 = 0 → (qm_PA X 59 2 [(0, .ref 1), (1, .int a), (2, .int (l2 + 1))] [] h Q)) ∧ (¬ r3 = 0 → (((0 : Int32) = 0 ∨ (0 : Int32) = 1) ∧ Q (some (.int 0)) h))
      refine ⟨fun c5 => ?_, fun c6 => ?_⟩
      · exact ih (l2 + 1) (by have := ti_addK l2 (1 : Int32) 1 rfl; omega) (by have := ti_addK l2 (1 : Int32) 1 rfl; omega)
      · exact ⟨Or.inl rfl, hq 0 (Or.inl rfl)⟩
set_option maxRecDepth 100000 in
set_option maxHeartbeats 4000000 in
theorem sf_59_1 (X : qm_X) (h : qm_H) (a : Int32) (hp : mq 1 h) (Q : qm_Q) (hq : ∀ r : Int32, (r = 0 ∨ r = 1) → Q (some (.int r)) h) : qm_PW X 59 [.ref 1, .int a] h Q := by
  have hm1 : mq 1 h := hp
  have ⟨⟨_, _⟩, ⟨_, _⟩, _, _⟩ := hm1
  refine qm_seg_ok (C := qc_59) (rt := some .boolean) rfl rfl (cuts := [(2, [0, 1, 2])]) 400 _ _ _ _ ?_
  show qm_PA X 59 2 [(0, .ref 1), (1, .int a), (2, .int 0)] [] h Q
  exact (sf_59_1_c X h a hp Q hq _) (0 : Int32) (by have : (0 : Int32).toInt = 0 := rfl; omega) (Nat.lt_succ_self _)
-- ThreadBank$Memory.debts()I
set_option maxRecDepth 100000 in
set_option maxHeartbeats 4000000 in
theorem sf_60_1_c (X : qm_X) (h : qm_H) (hp : mq 1 h) (Q : qm_Q) (hq : ∀ r : Int32, (True) → Q (some (.int r)) h) : ∀ n : Nat, (∀ (l1 : Int32) (l2 : Int32), (0 ≤ l2.toInt ∧ l2.toInt ≤ 10) → (10 - l2.toInt).toNat < n → qm_PA X 60 4 [(0, .ref 1), (1, .int l1), (2, .int l2)] [] h Q) := by
  have hm1 : mq 1 h := hp
  have ⟨⟨_, _⟩, ⟨_, _⟩, _, _⟩ := hm1
  intro n
  induction n with
  | zero => exact fun _ _ _ h0 => absurd h0 (Nat.not_lt_zero _)
  | succ n ih =>
    intro l1 l2 hi hr
    have ti_l2 := ti_rng l2
    refine qm_seg_ok (C := qc_60) (rt := some .int) rfl rfl (cuts := [(4, [0, 1, 2])]) 400 _ _ _ _ ?_
    show ((h 1 7).toInt ≤ l2.toInt → (Q (some (.int l1)) h)) ∧ (l2.toInt < (h 1 7).toInt → (qm_PW X 59 [.ref 1, .int l2] h _))
    refine ⟨fun c1 => ?_, fun c2 => ?_⟩
    · exact hq l1 trivial
    · refine sf_59_1 X h l2 hm1 _ (fun r3 p4 => ?_)
      show (r3 = 0 → (qm_PA X 60 4 [(0, .ref 1), (1, .int l1), (2, .int (l2 + 1))] [] h Q)) ∧ (¬ r3 = 0 → (qm_PA X 60 4 [(0, .ref 1), (1, .int (l1 + 1)), (2, .int (l2 + 1))] [] h Q))
      refine ⟨fun c5 => ?_, fun c6 => ?_⟩
      · exact ih l1 (l2 + 1) (by have := ti_addK l2 (1 : Int32) 1 rfl; omega) (by have := ti_addK l2 (1 : Int32) 1 rfl; omega)
      · exact ih (l1 + 1) (l2 + 1) (by have := ti_addK l2 (1 : Int32) 1 rfl; omega) (by have := ti_addK l2 (1 : Int32) 1 rfl; omega)
set_option maxRecDepth 100000 in
set_option maxHeartbeats 4000000 in
theorem sf_60_1 (X : qm_X) (h : qm_H) (hp : mq 1 h) (Q : qm_Q) (hq : ∀ r : Int32, (True) → Q (some (.int r)) h) : qm_PW X 60 [.ref 1] h Q := by
  have hm1 : mq 1 h := hp
  have ⟨⟨_, _⟩, ⟨_, _⟩, _, _⟩ := hm1
  refine qm_seg_ok (C := qc_60) (rt := some .int) rfl rfl (cuts := [(4, [0, 1, 2])]) 400 _ _ _ _ ?_
  show qm_PA X 60 4 [(0, .ref 1), (1, .int 0), (2, .int 0)] [] h Q
  exact (sf_60_1_c X h hp Q hq _) (0 : Int32) (0 : Int32) (by have : (0 : Int32).toInt = 0 := rfl; omega) (Nat.lt_succ_self _)
-- ThreadBank$Memory.isKeptWithout(II)Z
set_option maxRecDepth 100000 in
set_option maxHeartbeats 4000000 in
theorem sf_61_1_c (X : qm_X) (h : qm_H) (a : Int32) (b : Int32) (hp : mq 1 h) (Q : qm_Q) (hq : ∀ r : Int32, (r = 0 ∨ r = 1) → Q (some (.int r)) h) : ∀ n : Nat, (∀ (l3 : Int32), (0 ≤ l3.toInt ∧ l3.toInt ≤ 10) → (10 - l3.toInt).toNat < n → qm_PA X 61 2 [(0, .ref 1), (1, .int a), (2, .int b), (3, .int l3)] [] h Q) := by
  have hm1 : mq 1 h := hp
  have ⟨⟨_, _⟩, ⟨_, _⟩, _, _⟩ := hm1
  intro n
  induction n with
  | zero => exact fun _ _ h0 => absurd h0 (Nat.not_lt_zero _)
  | succ n ih =>
    intro l3 hi hr
    have ti_l3 := ti_rng l3
    refine qm_seg_ok (C := qc_61) (rt := some .boolean) rfl rfl (cuts := [(2, [0, 1, 2, 3])]) 400 _ _ _ _ ?_
    show ((h 1 7).toInt ≤ l3.toInt → (((0 : Int32) = 0 ∨ (0 : Int32) = 1) ∧ Q (some (.int 0)) h)) ∧ (l3.toInt < (h 1 7).toInt → (qm_PW X 49 [.ref 1, .int a, .int l3] h _))
    refine ⟨fun c1 => ?_, fun c2 => ?_⟩
    · exact ⟨Or.inl rfl, hq 0 (Or.inl rfl)⟩
    · refine sf_49_1 X h a l3 hm1 _ (fun r3 p4 => ?_)
      show (r3 = 0 → (qm_PA X 61 2 [(0, .ref 1), (1, .int a), (2, .int b), (3, .int (l3 + 1))] [] h Q)) ∧ (¬ r3 = 0 → (qm_PW X 33 [.ref 1, .int l3] h _))
      refine ⟨fun c5 => ?_, fun c6 => ?_⟩
      · exact ih (l3 + 1) (by have := ti_addK l3 (1 : Int32) 1 rfl; omega) (by have := ti_addK l3 (1 : Int32) 1 rfl; omega)
      · refine sf_33_1 X h l3 hm1 _ (fun r7 p8 => ?_)
        show qm_PW X 138 [.int b, .int r7] h _
        refine sf_138 X h b r7 trivial _ (fun r9 p10 => ?_)
        show (¬ r9 = 0 → (qm_PA X 61 2 [(0, .ref 1), (1, .int a), (2, .int b), (3, .int (l3 + 1))] [] h Q)) ∧ (r9 = 0 → (((1 : Int32) = 0 ∨ (1 : Int32) = 1) ∧ Q (some (.int 1)) h))
        refine ⟨fun c11 => ?_, fun c12 => ?_⟩
        · exact ih (l3 + 1) (by have := ti_addK l3 (1 : Int32) 1 rfl; omega) (by have := ti_addK l3 (1 : Int32) 1 rfl; omega)
        · exact ⟨Or.inr rfl, hq 1 (Or.inr rfl)⟩
set_option maxRecDepth 100000 in
set_option maxHeartbeats 4000000 in
theorem sf_61_1 (X : qm_X) (h : qm_H) (a : Int32) (b : Int32) (hp : mq 1 h) (Q : qm_Q) (hq : ∀ r : Int32, (r = 0 ∨ r = 1) → Q (some (.int r)) h) : qm_PW X 61 [.ref 1, .int a, .int b] h Q := by
  have hm1 : mq 1 h := hp
  have ⟨⟨_, _⟩, ⟨_, _⟩, _, _⟩ := hm1
  refine qm_seg_ok (C := qc_61) (rt := some .boolean) rfl rfl (cuts := [(2, [0, 1, 2, 3])]) 400 _ _ _ _ ?_
  show qm_PA X 61 2 [(0, .ref 1), (1, .int a), (2, .int b), (3, .int 0)] [] h Q
  exact (sf_61_1_c X h a b hp Q hq _) (0 : Int32) (by have : (0 : Int32).toInt = 0 := rfl; omega) (Nat.lt_succ_self _)
-- ThreadBank$Memory.debtsLostWith(I)I
set_option maxRecDepth 100000 in
set_option maxHeartbeats 4000000 in
theorem sf_62_1_c (X : qm_X) (h : qm_H) (a : Int32) (hp : mq 1 h) (Q : qm_Q) (hq : ∀ r : Int32, (True) → Q (some (.int r)) h) : ∀ n : Nat, (∀ (l2 : Int32) (l3 : Int32), (0 ≤ l3.toInt ∧ l3.toInt ≤ 10) → (10 - l3.toInt).toNat < n → qm_PA X 62 4 [(0, .ref 1), (1, .int a), (2, .int l2), (3, .int l3)] [] h Q) := by
  have hm1 : mq 1 h := hp
  have ⟨⟨_, _⟩, ⟨_, _⟩, _, _⟩ := hm1
  intro n
  induction n with
  | zero => exact fun _ _ _ h0 => absurd h0 (Nat.not_lt_zero _)
  | succ n ih =>
    intro l2 l3 hi hr
    have ti_l3 := ti_rng l3
    refine qm_seg_ok (C := qc_62) (rt := some .int) rfl rfl (cuts := [(4, [0, 1, 2, 3])]) 400 _ _ _ _ ?_
    show ((h 1 7).toInt ≤ l3.toInt → (Q (some (.int l2)) h)) ∧ (l3.toInt < (h 1 7).toInt → (qm_PW X 59 [.ref 1, .int l3] h _))
    refine ⟨fun c1 => ?_, fun c2 => ?_⟩
    · exact hq l2 trivial
    · refine sf_59_1 X h l3 hm1 _ (fun r3 p4 => ?_)
      show (r3 = 0 → (qm_PA X 62 4 [(0, .ref 1), (1, .int a), (2, .int l2), (3, .int (l3 + 1))] [] h Q)) ∧ (¬ r3 = 0 → (qm_PW X 61 [.ref 1, .int l3, .int a] h _))
      refine ⟨fun c5 => ?_, fun c6 => ?_⟩
      · exact ih l2 (l3 + 1) (by have := ti_addK l3 (1 : Int32) 1 rfl; omega) (by have := ti_addK l3 (1 : Int32) 1 rfl; omega)
      · refine sf_61_1 X h l3 a hm1 _ (fun r7 p8 => ?_)
        show (¬ r7 = 0 → (qm_PA X 62 4 [(0, .ref 1), (1, .int a), (2, .int l2), (3, .int (l3 + 1))] [] h Q)) ∧ (r7 = 0 → (qm_PA X 62 4 [(0, .ref 1), (1, .int a), (2, .int (l2 + 1)), (3, .int (l3 + 1))] [] h Q))
        refine ⟨fun c9 => ?_, fun c10 => ?_⟩
        · exact ih l2 (l3 + 1) (by have := ti_addK l3 (1 : Int32) 1 rfl; omega) (by have := ti_addK l3 (1 : Int32) 1 rfl; omega)
        · exact ih (l2 + 1) (l3 + 1) (by have := ti_addK l3 (1 : Int32) 1 rfl; omega) (by have := ti_addK l3 (1 : Int32) 1 rfl; omega)
set_option maxRecDepth 100000 in
set_option maxHeartbeats 4000000 in
theorem sf_62_1 (X : qm_X) (h : qm_H) (a : Int32) (hp : mq 1 h) (Q : qm_Q) (hq : ∀ r : Int32, (True) → Q (some (.int r)) h) : qm_PW X 62 [.ref 1, .int a] h Q := by
  have hm1 : mq 1 h := hp
  have ⟨⟨_, _⟩, ⟨_, _⟩, _, _⟩ := hm1
  refine qm_seg_ok (C := qc_62) (rt := some .int) rfl rfl (cuts := [(4, [0, 1, 2, 3])]) 400 _ _ _ _ ?_
  show qm_PA X 62 4 [(0, .ref 1), (1, .int a), (2, .int 0), (3, .int 0)] [] h Q
  exact (sf_62_1_c X h a hp Q hq _) (0 : Int32) (0 : Int32) (by have : (0 : Int32).toInt = 0 := rfl; omega) (Nat.lt_succ_self _)
-- ThreadBank$Memory.quarrelOf(II)Z
set_option maxRecDepth 100000 in
set_option maxHeartbeats 4000000 in
theorem sf_63_1 (X : qm_X) (h : qm_H) (a : Int32) (b : Int32) (hp : mq 1 h) (Q : qm_Q) (hq : ∀ r : Int32, (r = 0 ∨ r = 1) → Q (some (.int r)) h) : qm_PW X 63 [.ref 1, .int a, .int b] h Q := by
  have hm1 : mq 1 h := hp
  have ⟨⟨_, _⟩, ⟨_, _⟩, _, _⟩ := hm1
  refine qm_seg_ok (C := qc_63) (rt := some .boolean) rfl rfl (cuts := []) 400 _ _ _ _ ?_
  show qm_PW X 29 [.ref 1, .int a] h _
  refine sf_29_1 X h a trivial _ (fun r1 p2 => ?_)
  show (r1 = 0 → (((0 : Int32) = 0 ∨ (0 : Int32) = 1) ∧ Q (some (.int 0)) h)) ∧ (¬ r1 = 0 → (qm_PW X 29 [.ref 1, .int b] h _))
  refine ⟨fun c3 => ?_, fun c4 => ?_⟩
  · exact ⟨Or.inl rfl, hq 0 (Or.inl rfl)⟩
  · have := p2.2 c4
    refine sf_29_1 X h b trivial _ (fun r5 p6 => ?_)
    show (¬ r5 = 0 → ((0 ≤ a.toInt ∧ a.toInt < 10) ∧ (¬ (10 : Int32) = 0 ∧ ((0 ≤ b.toInt ∧ b.toInt < 10) ∧ (¬ (10 : Int32) = 0 ∧ ((¬ ((h 5 a.toInt.toNat) - (h 5 a.toInt.toNat) / 10 * 10) = ((h 5 b.toInt.toNat) - (h 5 b.toInt.toNat) / 10 * 10) → ((0 ≤ a.toInt ∧ a.toInt < 10) ∧ (¬ (10 : Int32) = 0 ∧ ((0 ≤ b.toInt ∧ b.toInt < 10) ∧ (¬ (10 : Int32) = 0 ∧ ((¬ ((h 5 a.toInt.toNat) / 10) = ((h 5 b.toInt.toNat) / 10) → (qm_PW X 33 [.ref 1, .int a] h _)) ∧ (((h 5 a.toInt.toNat) / 10) = ((h 5 b.toInt.toNat) / 10) → (qm_PW X 33 [.ref 1, .int a] h _)))))))) ∧ (((h 5 a.toInt.toNat) - (h 5 a.toInt.toNat) / 10 * 10) = ((h 5 b.toInt.toNat) - (h 5 b.toInt.toNat) / 10 * 10) → ((0 ≤ a.toInt ∧ a.toInt < 10) ∧ (¬ (10 : Int32) = 0 ∧ ((0 ≤ b.toInt ∧ b.toInt < 10) ∧ (¬ (10 : Int32) = 0 ∧ ((¬ ((h 5 a.toInt.toNat) / 10) = ((h 5 b.toInt.toNat) / 10) → (qm_PW X 33 [.ref 1, .int a] h _)) ∧ (((h 5 a.toInt.toNat) / 10) = ((h 5 b.toInt.toNat) / 10) → (qm_PW X 33 [.ref 1, .int a] h _)))))))))))))) ∧ (r5 = 0 → (((0 : Int32) = 0 ∨ (0 : Int32) = 1) ∧ Q (some (.int 0)) h))
    refine ⟨fun c7 => ?_, fun c8 => ?_⟩
    · have := p6.2 c7
      refine ⟨(by omega), ?_⟩
      refine ⟨by decide, ?_⟩
      refine ⟨(by omega), ?_⟩
      refine ⟨by decide, ?_⟩
      refine ⟨fun c9 => ?_, fun c10 => ?_⟩
      · refine ⟨(by omega), ?_⟩
        refine ⟨by decide, ?_⟩
        refine ⟨(by omega), ?_⟩
        refine ⟨by decide, ?_⟩
        refine ⟨fun c11 => ?_, fun c12 => ?_⟩
        · refine sf_33_1 X h a hm1 _ (fun r13 p14 => ?_)
          show qm_PW X 33 [.ref 1, .int b] h _
          refine sf_33_1 X h b hm1 _ (fun r15 p16 => ?_)
          show (r13 = r15 → (((0 : Int32) = 0 ∨ (0 : Int32) = 1) ∧ Q (some (.int 0)) h)) ∧ (¬ r13 = r15 → ((0 ≤ a.toInt ∧ a.toInt < 10) ∧ ((0 ≤ b.toInt ∧ b.toInt < 10) ∧ ((¬ (h 4 a.toInt.toNat) = (h 4 b.toInt.toNat) → (((0 : Int32) = 0 ∨ (0 : Int32) = 1) ∧ Q (some (.int 0)) h)) ∧ ((h 4 a.toInt.toNat) = (h 4 b.toInt.toNat) → (((0 : Int32) = 0 → (((0 : Int32) = 0 ∨ (0 : Int32) = 1) ∧ Q (some (.int 0)) h)) ∧ (¬ (0 : Int32) = 0 → ((¬ (0 : Int32) = 0 → (((0 : Int32) = 0 ∨ (0 : Int32) = 1) ∧ Q (some (.int 0)) h)) ∧ ((0 : Int32) = 0 → (((1 : Int32) = 0 ∨ (1 : Int32) = 1) ∧ Q (some (.int 1)) h))))))))))
          refine ⟨fun c17 => ?_, fun c18 => ?_⟩
          · exact ⟨Or.inl rfl, hq 0 (Or.inl rfl)⟩
          · refine ⟨(by omega), ?_⟩
            refine ⟨(by omega), ?_⟩
            refine ⟨fun c19 => ?_, fun c20 => ?_⟩
            · exact ⟨Or.inl rfl, hq 0 (Or.inl rfl)⟩
            · refine ⟨fun c21 => ?_, fun c22 => ?_⟩
              · exact ⟨Or.inl rfl, hq 0 (Or.inl rfl)⟩
              · exact absurd c22 (by decide)
        · refine sf_33_1 X h a hm1 _ (fun r25 p26 => ?_)
          show qm_PW X 33 [.ref 1, .int b] h _
          refine sf_33_1 X h b hm1 _ (fun r27 p28 => ?_)
          show (r25 = r27 → (((0 : Int32) = 0 ∨ (0 : Int32) = 1) ∧ Q (some (.int 0)) h)) ∧ (¬ r25 = r27 → ((0 ≤ a.toInt ∧ a.toInt < 10) ∧ ((0 ≤ b.toInt ∧ b.toInt < 10) ∧ ((¬ (h 4 a.toInt.toNat) = (h 4 b.toInt.toNat) → (((0 : Int32) = 0 ∨ (0 : Int32) = 1) ∧ Q (some (.int 0)) h)) ∧ ((h 4 a.toInt.toNat) = (h 4 b.toInt.toNat) → (((0 : Int32) = 0 → (((0 : Int32) = 0 ∨ (0 : Int32) = 1) ∧ Q (some (.int 0)) h)) ∧ (¬ (0 : Int32) = 0 → ((¬ (1 : Int32) = 0 → (((0 : Int32) = 0 ∨ (0 : Int32) = 1) ∧ Q (some (.int 0)) h)) ∧ ((1 : Int32) = 0 → (((1 : Int32) = 0 ∨ (1 : Int32) = 1) ∧ Q (some (.int 1)) h))))))))))
          refine ⟨fun c29 => ?_, fun c30 => ?_⟩
          · exact ⟨Or.inl rfl, hq 0 (Or.inl rfl)⟩
          · refine ⟨(by omega), ?_⟩
            refine ⟨(by omega), ?_⟩
            refine ⟨fun c31 => ?_, fun c32 => ?_⟩
            · exact ⟨Or.inl rfl, hq 0 (Or.inl rfl)⟩
            · refine ⟨fun c33 => ?_, fun c34 => ?_⟩
              · exact ⟨Or.inl rfl, hq 0 (Or.inl rfl)⟩
              · exact absurd c34 (by decide)
      · refine ⟨(by omega), ?_⟩
        refine ⟨by decide, ?_⟩
        refine ⟨(by omega), ?_⟩
        refine ⟨by decide, ?_⟩
        refine ⟨fun c37 => ?_, fun c38 => ?_⟩
        · refine sf_33_1 X h a hm1 _ (fun r39 p40 => ?_)
          show qm_PW X 33 [.ref 1, .int b] h _
          refine sf_33_1 X h b hm1 _ (fun r41 p42 => ?_)
          show (r39 = r41 → (((0 : Int32) = 0 ∨ (0 : Int32) = 1) ∧ Q (some (.int 0)) h)) ∧ (¬ r39 = r41 → ((0 ≤ a.toInt ∧ a.toInt < 10) ∧ ((0 ≤ b.toInt ∧ b.toInt < 10) ∧ ((¬ (h 4 a.toInt.toNat) = (h 4 b.toInt.toNat) → (((0 : Int32) = 0 ∨ (0 : Int32) = 1) ∧ Q (some (.int 0)) h)) ∧ ((h 4 a.toInt.toNat) = (h 4 b.toInt.toNat) → (((1 : Int32) = 0 → (((0 : Int32) = 0 ∨ (0 : Int32) = 1) ∧ Q (some (.int 0)) h)) ∧ (¬ (1 : Int32) = 0 → ((¬ (0 : Int32) = 0 → (((0 : Int32) = 0 ∨ (0 : Int32) = 1) ∧ Q (some (.int 0)) h)) ∧ ((0 : Int32) = 0 → (((1 : Int32) = 0 ∨ (1 : Int32) = 1) ∧ Q (some (.int 1)) h))))))))))
          refine ⟨fun c43 => ?_, fun c44 => ?_⟩
          · exact ⟨Or.inl rfl, hq 0 (Or.inl rfl)⟩
          · refine ⟨(by omega), ?_⟩
            refine ⟨(by omega), ?_⟩
            refine ⟨fun c45 => ?_, fun c46 => ?_⟩
            · exact ⟨Or.inl rfl, hq 0 (Or.inl rfl)⟩
            · refine ⟨fun c47 => ?_, fun c48 => ?_⟩
              · exact absurd c47 (by decide)
              · refine ⟨fun c49 => ?_, fun c50 => ?_⟩
                · exact absurd c49 (by decide)
                · exact ⟨Or.inr rfl, hq 1 (Or.inr rfl)⟩
        · refine sf_33_1 X h a hm1 _ (fun r51 p52 => ?_)
          show qm_PW X 33 [.ref 1, .int b] h _
          refine sf_33_1 X h b hm1 _ (fun r53 p54 => ?_)
          show (r51 = r53 → (((0 : Int32) = 0 ∨ (0 : Int32) = 1) ∧ Q (some (.int 0)) h)) ∧ (¬ r51 = r53 → ((0 ≤ a.toInt ∧ a.toInt < 10) ∧ ((0 ≤ b.toInt ∧ b.toInt < 10) ∧ ((¬ (h 4 a.toInt.toNat) = (h 4 b.toInt.toNat) → (((0 : Int32) = 0 ∨ (0 : Int32) = 1) ∧ Q (some (.int 0)) h)) ∧ ((h 4 a.toInt.toNat) = (h 4 b.toInt.toNat) → (((1 : Int32) = 0 → (((0 : Int32) = 0 ∨ (0 : Int32) = 1) ∧ Q (some (.int 0)) h)) ∧ (¬ (1 : Int32) = 0 → ((¬ (1 : Int32) = 0 → (((0 : Int32) = 0 ∨ (0 : Int32) = 1) ∧ Q (some (.int 0)) h)) ∧ ((1 : Int32) = 0 → (((1 : Int32) = 0 ∨ (1 : Int32) = 1) ∧ Q (some (.int 1)) h))))))))))
          refine ⟨fun c55 => ?_, fun c56 => ?_⟩
          · exact ⟨Or.inl rfl, hq 0 (Or.inl rfl)⟩
          · refine ⟨(by omega), ?_⟩
            refine ⟨(by omega), ?_⟩
            refine ⟨fun c57 => ?_, fun c58 => ?_⟩
            · exact ⟨Or.inl rfl, hq 0 (Or.inl rfl)⟩
            · refine ⟨fun c59 => ?_, fun c60 => ?_⟩
              · exact absurd c59 (by decide)
              · refine ⟨fun c61 => ?_, fun c62 => ?_⟩
                · exact ⟨Or.inl rfl, hq 0 (Or.inl rfl)⟩
                · exact absurd c62 (by decide)
    · exact ⟨Or.inl rfl, hq 0 (Or.inl rfl)⟩
-- ThreadBank$Memory.slipOdds(II)I
set_option maxRecDepth 100000 in
set_option maxHeartbeats 4000000 in
theorem sf_64_1 (X : qm_X) (h : qm_H) (a : Int32) (b : Int32) (hp : mq 1 h) (Q : qm_Q) (hq : ∀ r : Int32, (True) → Q (some (.int r)) h) : qm_PW X 64 [.ref 1, .int a, .int b] h Q := by
  have hm1 : mq 1 h := hp
  have ⟨⟨_, _⟩, ⟨_, _⟩, _, _⟩ := hm1
  refine qm_seg_ok (C := qc_64) (rt := some .int) rfl rfl (cuts := []) 400 _ _ _ _ ?_
  show qm_PW X 33 [.ref 1, .int a] h _
  refine sf_33_1 X h a hm1 _ (fun r1 p2 => ?_)
  show qm_PW X 32 [.ref 1, .int r1] h _
  refine sf_32_1 X h r1 hm1 _ (fun r3 p4 => ?_)
  show ((r3 = 2 → (Q (some (.int b)) h)) ∧ (¬ r3 = 2 → ((r3 = 3 → (Q (some (.int 0)) h)) ∧ (¬ r3 = 3 → (Q (some (.int (2 * b))) h)))))
  refine ⟨fun c5 => ?_, fun c6 => ?_⟩
  · exact hq b trivial
  · refine ⟨fun c7 => ?_, fun c8 => ?_⟩
    · exact hq 0 trivial
    · exact hq (2 * b) trivial
end
section
-- java/lang/Integer.bitCount(I)I
set_option maxRecDepth 100000 in
set_option maxHeartbeats 4000000 in
theorem sf_0 (X : qm_X) (h : qm_H) (a : Int32) (hp : True) (Q : qm_Q) (hq : ∀ r : Int32, (True) → Q (some (.int r)) h) : qm_PW X 0 [.int a] h Q := by
  refine qm_seg_ok (C := qc_0) (rt := some .int) rfl rfl (cuts := []) 400 _ _ _ _ ?_
  show Q (some (.int ((((((((a - ((((Int32.toUInt32 a) >>> ((Int32.toUInt32 1) &&& Int32.toUInt32 31)).toInt32) &&& 1431655765)) &&& 858993459) + ((((Int32.toUInt32 (a - ((((Int32.toUInt32 a) >>> ((Int32.toUInt32 1) &&& Int32.toUInt32 31)).toInt32) &&& 1431655765))) >>> ((Int32.toUInt32 2) &&& Int32.toUInt32 31)).toInt32) &&& 858993459)) + (((Int32.toUInt32 (((a - ((((Int32.toUInt32 a) >>> ((Int32.toUInt32 1) &&& Int32.toUInt32 31)).toInt32) &&& 1431655765)) &&& 858993459) + ((((Int32.toUInt32 (a - ((((Int32.toUInt32 a) >>> ((Int32.toUInt32 1) &&& Int32.toUInt32 31)).toInt32) &&& 1431655765))) >>> ((Int32.toUInt32 2) &&& Int32.toUInt32 31)).toInt32) &&& 858993459))) >>> ((Int32.toUInt32 4) &&& Int32.toUInt32 31)).toInt32)) &&& 252645135) + (((Int32.toUInt32 (((((a - ((((Int32.toUInt32 a) >>> ((Int32.toUInt32 1) &&& Int32.toUInt32 31)).toInt32) &&& 1431655765)) &&& 858993459) + ((((Int32.toUInt32 (a - ((((Int32.toUInt32 a) >>> ((Int32.toUInt32 1) &&& Int32.toUInt32 31)).toInt32) &&& 1431655765))) >>> ((Int32.toUInt32 2) &&& Int32.toUInt32 31)).toInt32) &&& 858993459)) + (((Int32.toUInt32 (((a - ((((Int32.toUInt32 a) >>> ((Int32.toUInt32 1) &&& Int32.toUInt32 31)).toInt32) &&& 1431655765)) &&& 858993459) + ((((Int32.toUInt32 (a - ((((Int32.toUInt32 a) >>> ((Int32.toUInt32 1) &&& Int32.toUInt32 31)).toInt32) &&& 1431655765))) >>> ((Int32.toUInt32 2) &&& Int32.toUInt32 31)).toInt32) &&& 858993459))) >>> ((Int32.toUInt32 4) &&& Int32.toUInt32 31)).toInt32)) &&& 252645135)) >>> ((Int32.toUInt32 8) &&& Int32.toUInt32 31)).toInt32)) + (((Int32.toUInt32 ((((((a - ((((Int32.toUInt32 a) >>> ((Int32.toUInt32 1) &&& Int32.toUInt32 31)).toInt32) &&& 1431655765)) &&& 858993459) + ((((Int32.toUInt32 (a - ((((Int32.toUInt32 a) >>> ((Int32.toUInt32 1) &&& Int32.toUInt32 31)).toInt32) &&& 1431655765))) >>> ((Int32.toUInt32 2) &&& Int32.toUInt32 31)).toInt32) &&& 858993459)) + (((Int32.toUInt32 (((a - ((((Int32.toUInt32 a) >>> ((Int32.toUInt32 1) &&& Int32.toUInt32 31)).toInt32) &&& 1431655765)) &&& 858993459) + ((((Int32.toUInt32 (a - ((((Int32.toUInt32 a) >>> ((Int32.toUInt32 1) &&& Int32.toUInt32 31)).toInt32) &&& 1431655765))) >>> ((Int32.toUInt32 2) &&& Int32.toUInt32 31)).toInt32) &&& 858993459))) >>> ((Int32.toUInt32 4) &&& Int32.toUInt32 31)).toInt32)) &&& 252645135) + (((Int32.toUInt32 (((((a - ((((Int32.toUInt32 a) >>> ((Int32.toUInt32 1) &&& Int32.toUInt32 31)).toInt32) &&& 1431655765)) &&& 858993459) + ((((Int32.toUInt32 (a - ((((Int32.toUInt32 a) >>> ((Int32.toUInt32 1) &&& Int32.toUInt32 31)).toInt32) &&& 1431655765))) >>> ((Int32.toUInt32 2) &&& Int32.toUInt32 31)).toInt32) &&& 858993459)) + (((Int32.toUInt32 (((a - ((((Int32.toUInt32 a) >>> ((Int32.toUInt32 1) &&& Int32.toUInt32 31)).toInt32) &&& 1431655765)) &&& 858993459) + ((((Int32.toUInt32 (a - ((((Int32.toUInt32 a) >>> ((Int32.toUInt32 1) &&& Int32.toUInt32 31)).toInt32) &&& 1431655765))) >>> ((Int32.toUInt32 2) &&& Int32.toUInt32 31)).toInt32) &&& 858993459))) >>> ((Int32.toUInt32 4) &&& Int32.toUInt32 31)).toInt32)) &&& 252645135)) >>> ((Int32.toUInt32 8) &&& Int32.toUInt32 31)).toInt32))) >>> ((Int32.toUInt32 16) &&& Int32.toUInt32 31)).toInt32)) &&& 63))) h
  exact hq ((((((((a - ((((Int32.toUInt32 a) >>> ((Int32.toUInt32 1) &&& Int32.toUInt32 31)).toInt32) &&& 1431655765)) &&& 858993459) + ((((Int32.toUInt32 (a - ((((Int32.toUInt32 a) >>> ((Int32.toUInt32 1) &&& Int32.toUInt32 31)).toInt32) &&& 1431655765))) >>> ((Int32.toUInt32 2) &&& Int32.toUInt32 31)).toInt32) &&& 858993459)) + (((Int32.toUInt32 (((a - ((((Int32.toUInt32 a) >>> ((Int32.toUInt32 1) &&& Int32.toUInt32 31)).toInt32) &&& 1431655765)) &&& 858993459) + ((((Int32.toUInt32 (a - ((((Int32.toUInt32 a) >>> ((Int32.toUInt32 1) &&& Int32.toUInt32 31)).toInt32) &&& 1431655765))) >>> ((Int32.toUInt32 2) &&& Int32.toUInt32 31)).toInt32) &&& 858993459))) >>> ((Int32.toUInt32 4) &&& Int32.toUInt32 31)).toInt32)) &&& 252645135) + (((Int32.toUInt32 (((((a - ((((Int32.toUInt32 a) >>> ((Int32.toUInt32 1) &&& Int32.toUInt32 31)).toInt32) &&& 1431655765)) &&& 858993459) + ((((Int32.toUInt32 (a - ((((Int32.toUInt32 a) >>> ((Int32.toUInt32 1) &&& Int32.toUInt32 31)).toInt32) &&& 1431655765))) >>> ((Int32.toUInt32 2) &&& Int32.toUInt32 31)).toInt32) &&& 858993459)) + (((Int32.toUInt32 (((a - ((((Int32.toUInt32 a) >>> ((Int32.toUInt32 1) &&& Int32.toUInt32 31)).toInt32) &&& 1431655765)) &&& 858993459) + ((((Int32.toUInt32 (a - ((((Int32.toUInt32 a) >>> ((Int32.toUInt32 1) &&& Int32.toUInt32 31)).toInt32) &&& 1431655765))) >>> ((Int32.toUInt32 2) &&& Int32.toUInt32 31)).toInt32) &&& 858993459))) >>> ((Int32.toUInt32 4) &&& Int32.toUInt32 31)).toInt32)) &&& 252645135)) >>> ((Int32.toUInt32 8) &&& Int32.toUInt32 31)).toInt32)) + (((Int32.toUInt32 ((((((a - ((((Int32.toUInt32 a) >>> ((Int32.toUInt32 1) &&& Int32.toUInt32 31)).toInt32) &&& 1431655765)) &&& 858993459) + ((((Int32.toUInt32 (a - ((((Int32.toUInt32 a) >>> ((Int32.toUInt32 1) &&& Int32.toUInt32 31)).toInt32) &&& 1431655765))) >>> ((Int32.toUInt32 2) &&& Int32.toUInt32 31)).toInt32) &&& 858993459)) + (((Int32.toUInt32 (((a - ((((Int32.toUInt32 a) >>> ((Int32.toUInt32 1) &&& Int32.toUInt32 31)).toInt32) &&& 1431655765)) &&& 858993459) + ((((Int32.toUInt32 (a - ((((Int32.toUInt32 a) >>> ((Int32.toUInt32 1) &&& Int32.toUInt32 31)).toInt32) &&& 1431655765))) >>> ((Int32.toUInt32 2) &&& Int32.toUInt32 31)).toInt32) &&& 858993459))) >>> ((Int32.toUInt32 4) &&& Int32.toUInt32 31)).toInt32)) &&& 252645135) + (((Int32.toUInt32 (((((a - ((((Int32.toUInt32 a) >>> ((Int32.toUInt32 1) &&& Int32.toUInt32 31)).toInt32) &&& 1431655765)) &&& 858993459) + ((((Int32.toUInt32 (a - ((((Int32.toUInt32 a) >>> ((Int32.toUInt32 1) &&& Int32.toUInt32 31)).toInt32) &&& 1431655765))) >>> ((Int32.toUInt32 2) &&& Int32.toUInt32 31)).toInt32) &&& 858993459)) + (((Int32.toUInt32 (((a - ((((Int32.toUInt32 a) >>> ((Int32.toUInt32 1) &&& Int32.toUInt32 31)).toInt32) &&& 1431655765)) &&& 858993459) + ((((Int32.toUInt32 (a - ((((Int32.toUInt32 a) >>> ((Int32.toUInt32 1) &&& Int32.toUInt32 31)).toInt32) &&& 1431655765))) >>> ((Int32.toUInt32 2) &&& Int32.toUInt32 31)).toInt32) &&& 858993459))) >>> ((Int32.toUInt32 4) &&& Int32.toUInt32 31)).toInt32)) &&& 252645135)) >>> ((Int32.toUInt32 8) &&& Int32.toUInt32 31)).toInt32))) >>> ((Int32.toUInt32 16) &&& Int32.toUInt32 31)).toInt32)) &&& 63) trivial
-- java/lang/Math.max(II)I
set_option maxRecDepth 100000 in
set_option maxHeartbeats 4000000 in
theorem sf_1 (X : qm_X) (h : qm_H) (a : Int32) (b : Int32) (hp : True) (Q : qm_Q) (hq : ∀ r : Int32, (a.toInt ≤ r.toInt ∧ b.toInt ≤ r.toInt) → Q (some (.int r)) h) : qm_PW X 1 [.int a, .int b] h Q := by
  refine qm_seg_ok (C := qc_1) (rt := some .int) rfl rfl (cuts := []) 400 _ _ _ _ ?_
  show (a.toInt < b.toInt → (Q (some (.int b)) h)) ∧ (b.toInt ≤ a.toInt → (Q (some (.int a)) h))
  refine ⟨fun c1 => ?_, fun c2 => ?_⟩
  · exact hq b (by omega)
  · exact hq a (by omega)
-- java/lang/Math.min(II)I
set_option maxRecDepth 100000 in
set_option maxHeartbeats 4000000 in
theorem sf_2 (X : qm_X) (h : qm_H) (a : Int32) (b : Int32) (hp : True) (Q : qm_Q) (hq : ∀ r : Int32, (True) → Q (some (.int r)) h) : qm_PW X 2 [.int a, .int b] h Q := by
  refine qm_seg_ok (C := qc_2) (rt := some .int) rfl rfl (cuts := []) 400 _ _ _ _ ?_
  show (b.toInt < a.toInt → (Q (some (.int b)) h)) ∧ (a.toInt ≤ b.toInt → (Q (some (.int a)) h))
  refine ⟨fun c1 => ?_, fun c2 => ?_⟩
  · exact hq b trivial
  · exact hq a trivial
-- jdk/internal/util/Preconditions.checkIndex(IILjava/util/function/BiFunction;)I
set_option maxRecDepth 100000 in
set_option maxHeartbeats 4000000 in
theorem sf_9 (X : qm_X) (h : qm_H) (a : Int32) (b : Int32) (hp : 0 ≤ a.toInt ∧ a.toInt < b.toInt) (Q : qm_Q) (hq : ∀ r : Int32, (True) → Q (some (.int r)) h) : qm_PW X 9 [.int a, .int b, .ref 140] h Q := by
  have hp0 : 0 ≤ a.toInt ∧ a.toInt < b.toInt := hp
  refine qm_seg_ok (C := qc_9) (rt := some .int) rfl rfl (cuts := []) 400 _ _ _ _ ?_
  show (a.toInt < 0 → (False)) ∧ (0 ≤ a.toInt → ((a.toInt < b.toInt → (Q (some (.int a)) h)) ∧ (b.toInt ≤ a.toInt → (False))))
  refine ⟨fun c1 => ?_, fun c2 => ?_⟩
  · exact (by first | omega | (subst_vars; contradiction) | simp_all)
  · refine ⟨fun c3 => ?_, fun c4 => ?_⟩
    · exact hq a trivial
    · exact (by first | omega | (subst_vars; contradiction) | simp_all)
-- java/lang/String.checkIndex(II)V
set_option maxRecDepth 100000 in
set_option maxHeartbeats 4000000 in
theorem sf_8 (X : qm_X) (h : qm_H) (a : Int32) (b : Int32) (hp : 0 ≤ a.toInt ∧ a.toInt < b.toInt) (Q : qm_Q) (hq : (True) → Q none h) : qm_PW X 8 [.int a, .int b] h Q := by
  have hp0 : 0 ≤ a.toInt ∧ a.toInt < b.toInt := hp
  refine qm_seg_ok (C := qc_8) (rt := none) rfl rfl (cuts := []) 400 _ _ _ _ ?_
  show qm_PW X 9 [.int a, .int b, .ref 140] h _
  refine sf_9 X h a b (by omega) _ (fun r1 p2 => ?_)
  show Q none h
  exact hq  trivial
-- java/lang/String.coder()B
set_option maxRecDepth 100000 in
set_option maxHeartbeats 4000000 in
theorem sf_4_110 (X : qm_X) (h : qm_H) (hp : True) (Q : qm_Q) (hq : ∀ r : Int32, (r = 0) → Q (some (.int r)) h) : qm_PW X 4 [.ref 110] h Q := by
  refine qm_seg_ok (C := qc_4) (rt := some .byte) rfl rfl (cuts := []) 400 _ _ _ _ ?_
  show ((1 : Int32) = 0 → ((1 : Int32) = 0 ∧ Q (some (.int 1)) h)) ∧ (¬ (1 : Int32) = 0 → ((0 : Int32) = 0 ∧ Q (some (.int 0)) h))
  refine ⟨fun c1 => ?_, fun c2 => ?_⟩
  · exact absurd c1 (by decide)
  · exact ⟨rfl, hq 0 (by rfl)⟩
-- java/lang/String.isLatin1()Z
set_option maxRecDepth 100000 in
set_option maxHeartbeats 4000000 in
theorem sf_5_110 (X : qm_X) (h : qm_H) (hp : True) (Q : qm_Q) (hq : ∀ r : Int32, (r = 1) → Q (some (.int r)) h) : qm_PW X 5 [.ref 110] h Q := by
  refine qm_seg_ok (C := qc_5) (rt := some .boolean) rfl rfl (cuts := []) 400 _ _ _ _ ?_
  show ((1 : Int32) = 0 → (((0 : Int32) = 0 ∨ (0 : Int32) = 1) ∧ Q (some (.int 0)) h)) ∧ (¬ (1 : Int32) = 0 → ((¬ (0 : Int32) = 0 → (((0 : Int32) = 0 ∨ (0 : Int32) = 1) ∧ Q (some (.int 0)) h)) ∧ ((0 : Int32) = 0 → (((1 : Int32) = 0 ∨ (1 : Int32) = 1) ∧ Q (some (.int 1)) h))))
  refine ⟨fun c1 => ?_, fun c2 => ?_⟩
  · exact absurd c1 (by decide)
  · refine ⟨fun c3 => ?_, fun c4 => ?_⟩
    · exact absurd c3 (by decide)
    · exact ⟨Or.inr rfl, hq 1 (by rfl)⟩
-- java/lang/String.length()I
set_option maxRecDepth 100000 in
set_option maxHeartbeats 4000000 in
theorem sf_3_110 (X : qm_X) (h : qm_H) (hp : True) (Q : qm_Q) (hq : ∀ r : Int32, (r.toInt = 5) → Q (some (.int r)) h) : qm_PW X 3 [.ref 110] h Q := by
  refine qm_seg_ok (C := qc_3) (rt := some .int) rfl rfl (cuts := []) 400 _ _ _ _ ?_
  show qm_PW X 4 [.ref 110] h _
  refine sf_4_110 X h  trivial _ (fun r1 p2 => ?_)
  show Q (some (.int (5 >>> (r1 &&& 31)))) h
  exact hq (5 >>> (r1 &&& 31)) (by (subst_vars; rfl))
-- java/lang/StringLatin1.charAt([BI)C
set_option maxRecDepth 100000 in
set_option maxHeartbeats 4000000 in
theorem sf_7_120 (X : qm_X) (h : qm_H) (a : Int32) (hp : 0 ≤ a.toInt ∧ a.toInt < 5) (Q : qm_Q) (hq : ∀ r : Int32, (0 ≤ r.toInt ∧ r.toInt < 65536) → Q (some (.int r)) h) : qm_PW X 7 [.ref 120, .int a] h Q := by
  have hp0 : 0 ≤ a.toInt ∧ a.toInt < 5 := hp
  refine qm_seg_ok (C := qc_7) (rt := some .char) rfl rfl (cuts := []) 400 _ _ _ _ ?_
  show qm_PW X 8 [.int a, .int 5] h _
  refine sf_8 X h a (5 : Int32) (by have : (5 : Int32).toInt = 5 := rfl; omega) _ (fun p1 => ?_)
  show (0 ≤ a.toInt ∧ a.toInt < 5) ∧ ((0 ≤ ((Int32.toUInt32 (((qm_sbyt.getD 0 []).getD a.toInt.toNat 0) &&& 255) % 65536).toInt32).toInt ∧ ((Int32.toUInt32 (((qm_sbyt.getD 0 []).getD a.toInt.toNat 0) &&& 255) % 65536).toInt32).toInt < 65536) ∧ Q (some (.int ((Int32.toUInt32 (((qm_sbyt.getD 0 []).getD a.toInt.toNat 0) &&& 255) % 65536).toInt32))) h)
  refine ⟨(by omega), ?_⟩
  exact ⟨(by exact i2c_rng _), hq ((Int32.toUInt32 (((qm_sbyt.getD 0 []).getD a.toInt.toNat 0) &&& 255) % 65536).toInt32) (by exact i2c_rng _)⟩
-- java/lang/String.charAt(I)C
set_option maxRecDepth 100000 in
set_option maxHeartbeats 4000000 in
theorem sf_6_110 (X : qm_X) (h : qm_H) (a : Int32) (hp : 0 ≤ a.toInt ∧ a.toInt < 5) (Q : qm_Q) (hq : ∀ r : Int32, (True) → Q (some (.int r)) h) : qm_PW X 6 [.ref 110, .int a] h Q := by
  have hp0 : 0 ≤ a.toInt ∧ a.toInt < 5 := hp
  refine qm_seg_ok (C := qc_6) (rt := some .char) rfl rfl (cuts := []) 400 _ _ _ _ ?_
  show qm_PW X 5 [.ref 110] h _
  refine sf_5_110 X h  trivial _ (fun r1 p2 => ?_)
  show (r1 = 0 → (False)) ∧ (¬ r1 = 0 → (qm_PW X 7 [.ref 120, .int a] h _))
  refine ⟨fun c3 => ?_, fun c4 => ?_⟩
  · exact (by first | omega | (subst_vars; contradiction) | simp_all)
  · refine sf_7_120 X h a (by omega) _ (fun r5 p6 => ?_)
    show (0 ≤ r5.toInt ∧ r5.toInt < 65536) ∧ Q (some (.int r5)) h
    exact ⟨(by omega), hq r5 trivial⟩
-- java/lang/String.coder()B
set_option maxRecDepth 100000 in
set_option maxHeartbeats 4000000 in
theorem sf_4_111 (X : qm_X) (h : qm_H) (hp : True) (Q : qm_Q) (hq : ∀ r : Int32, (r = 0) → Q (some (.int r)) h) : qm_PW X 4 [.ref 111] h Q := by
  refine qm_seg_ok (C := qc_4) (rt := some .byte) rfl rfl (cuts := []) 400 _ _ _ _ ?_
  show ((1 : Int32) = 0 → ((1 : Int32) = 0 ∧ Q (some (.int 1)) h)) ∧ (¬ (1 : Int32) = 0 → ((0 : Int32) = 0 ∧ Q (some (.int 0)) h))
  refine ⟨fun c1 => ?_, fun c2 => ?_⟩
  · exact absurd c1 (by decide)
  · exact ⟨rfl, hq 0 (by rfl)⟩
-- java/lang/String.isLatin1()Z
set_option maxRecDepth 100000 in
set_option maxHeartbeats 4000000 in
theorem sf_5_111 (X : qm_X) (h : qm_H) (hp : True) (Q : qm_Q) (hq : ∀ r : Int32, (r = 1) → Q (some (.int r)) h) : qm_PW X 5 [.ref 111] h Q := by
  refine qm_seg_ok (C := qc_5) (rt := some .boolean) rfl rfl (cuts := []) 400 _ _ _ _ ?_
  show ((1 : Int32) = 0 → (((0 : Int32) = 0 ∨ (0 : Int32) = 1) ∧ Q (some (.int 0)) h)) ∧ (¬ (1 : Int32) = 0 → ((¬ (0 : Int32) = 0 → (((0 : Int32) = 0 ∨ (0 : Int32) = 1) ∧ Q (some (.int 0)) h)) ∧ ((0 : Int32) = 0 → (((1 : Int32) = 0 ∨ (1 : Int32) = 1) ∧ Q (some (.int 1)) h))))
  refine ⟨fun c1 => ?_, fun c2 => ?_⟩
  · exact absurd c1 (by decide)
  · refine ⟨fun c3 => ?_, fun c4 => ?_⟩
    · exact absurd c3 (by decide)
    · exact ⟨Or.inr rfl, hq 1 (by rfl)⟩
-- java/lang/String.length()I
set_option maxRecDepth 100000 in
set_option maxHeartbeats 4000000 in
theorem sf_3_111 (X : qm_X) (h : qm_H) (hp : True) (Q : qm_Q) (hq : ∀ r : Int32, (r.toInt = 4) → Q (some (.int r)) h) : qm_PW X 3 [.ref 111] h Q := by
  refine qm_seg_ok (C := qc_3) (rt := some .int) rfl rfl (cuts := []) 400 _ _ _ _ ?_
  show qm_PW X 4 [.ref 111] h _
  refine sf_4_111 X h  trivial _ (fun r1 p2 => ?_)
  show Q (some (.int (4 >>> (r1 &&& 31)))) h
  exact hq (4 >>> (r1 &&& 31)) (by (subst_vars; rfl))
-- java/lang/StringLatin1.charAt([BI)C
set_option maxRecDepth 100000 in
set_option maxHeartbeats 4000000 in
theorem sf_7_121 (X : qm_X) (h : qm_H) (a : Int32) (hp : 0 ≤ a.toInt ∧ a.toInt < 4) (Q : qm_Q) (hq : ∀ r : Int32, (0 ≤ r.toInt ∧ r.toInt < 65536) → Q (some (.int r)) h) : qm_PW X 7 [.ref 121, .int a] h Q := by
  have hp0 : 0 ≤ a.toInt ∧ a.toInt < 4 := hp
  refine qm_seg_ok (C := qc_7) (rt := some .char) rfl rfl (cuts := []) 400 _ _ _ _ ?_
  show qm_PW X 8 [.int a, .int 4] h _
  refine sf_8 X h a (4 : Int32) (by have : (4 : Int32).toInt = 4 := rfl; omega) _ (fun p1 => ?_)
  show (0 ≤ a.toInt ∧ a.toInt < 4) ∧ ((0 ≤ ((Int32.toUInt32 (((qm_sbyt.getD 1 []).getD a.toInt.toNat 0) &&& 255) % 65536).toInt32).toInt ∧ ((Int32.toUInt32 (((qm_sbyt.getD 1 []).getD a.toInt.toNat 0) &&& 255) % 65536).toInt32).toInt < 65536) ∧ Q (some (.int ((Int32.toUInt32 (((qm_sbyt.getD 1 []).getD a.toInt.toNat 0) &&& 255) % 65536).toInt32))) h)
  refine ⟨(by omega), ?_⟩
  exact ⟨(by exact i2c_rng _), hq ((Int32.toUInt32 (((qm_sbyt.getD 1 []).getD a.toInt.toNat 0) &&& 255) % 65536).toInt32) (by exact i2c_rng _)⟩
-- java/lang/String.charAt(I)C
set_option maxRecDepth 100000 in
set_option maxHeartbeats 4000000 in
theorem sf_6_111 (X : qm_X) (h : qm_H) (a : Int32) (hp : 0 ≤ a.toInt ∧ a.toInt < 4) (Q : qm_Q) (hq : ∀ r : Int32, (True) → Q (some (.int r)) h) : qm_PW X 6 [.ref 111, .int a] h Q := by
  have hp0 : 0 ≤ a.toInt ∧ a.toInt < 4 := hp
  refine qm_seg_ok (C := qc_6) (rt := some .char) rfl rfl (cuts := []) 400 _ _ _ _ ?_
  show qm_PW X 5 [.ref 111] h _
  refine sf_5_111 X h  trivial _ (fun r1 p2 => ?_)
  show (r1 = 0 → (False)) ∧ (¬ r1 = 0 → (qm_PW X 7 [.ref 121, .int a] h _))
  refine ⟨fun c3 => ?_, fun c4 => ?_⟩
  · exact (by first | omega | (subst_vars; contradiction) | simp_all)
  · refine sf_7_121 X h a (by omega) _ (fun r5 p6 => ?_)
    show (0 ≤ r5.toInt ∧ r5.toInt < 65536) ∧ Q (some (.int r5)) h
    exact ⟨(by omega), hq r5 trivial⟩
-- java/lang/String.coder()B
set_option maxRecDepth 100000 in
set_option maxHeartbeats 4000000 in
theorem sf_4_112 (X : qm_X) (h : qm_H) (hp : True) (Q : qm_Q) (hq : ∀ r : Int32, (r = 0) → Q (some (.int r)) h) : qm_PW X 4 [.ref 112] h Q := by
  refine qm_seg_ok (C := qc_4) (rt := some .byte) rfl rfl (cuts := []) 400 _ _ _ _ ?_
  show ((1 : Int32) = 0 → ((1 : Int32) = 0 ∧ Q (some (.int 1)) h)) ∧ (¬ (1 : Int32) = 0 → ((0 : Int32) = 0 ∧ Q (some (.int 0)) h))
  refine ⟨fun c1 => ?_, fun c2 => ?_⟩
  · exact absurd c1 (by decide)
  · exact ⟨rfl, hq 0 (by rfl)⟩
-- java/lang/String.isLatin1()Z
set_option maxRecDepth 100000 in
set_option maxHeartbeats 4000000 in
theorem sf_5_112 (X : qm_X) (h : qm_H) (hp : True) (Q : qm_Q) (hq : ∀ r : Int32, (r = 1) → Q (some (.int r)) h) : qm_PW X 5 [.ref 112] h Q := by
  refine qm_seg_ok (C := qc_5) (rt := some .boolean) rfl rfl (cuts := []) 400 _ _ _ _ ?_
  show ((1 : Int32) = 0 → (((0 : Int32) = 0 ∨ (0 : Int32) = 1) ∧ Q (some (.int 0)) h)) ∧ (¬ (1 : Int32) = 0 → ((¬ (0 : Int32) = 0 → (((0 : Int32) = 0 ∨ (0 : Int32) = 1) ∧ Q (some (.int 0)) h)) ∧ ((0 : Int32) = 0 → (((1 : Int32) = 0 ∨ (1 : Int32) = 1) ∧ Q (some (.int 1)) h))))
  refine ⟨fun c1 => ?_, fun c2 => ?_⟩
  · exact absurd c1 (by decide)
  · refine ⟨fun c3 => ?_, fun c4 => ?_⟩
    · exact absurd c3 (by decide)
    · exact ⟨Or.inr rfl, hq 1 (by rfl)⟩
-- java/lang/String.length()I
set_option maxRecDepth 100000 in
set_option maxHeartbeats 4000000 in
theorem sf_3_112 (X : qm_X) (h : qm_H) (hp : True) (Q : qm_Q) (hq : ∀ r : Int32, (r.toInt = 3) → Q (some (.int r)) h) : qm_PW X 3 [.ref 112] h Q := by
  refine qm_seg_ok (C := qc_3) (rt := some .int) rfl rfl (cuts := []) 400 _ _ _ _ ?_
  show qm_PW X 4 [.ref 112] h _
  refine sf_4_112 X h  trivial _ (fun r1 p2 => ?_)
  show Q (some (.int (3 >>> (r1 &&& 31)))) h
  exact hq (3 >>> (r1 &&& 31)) (by (subst_vars; rfl))
-- java/lang/StringLatin1.charAt([BI)C
set_option maxRecDepth 100000 in
set_option maxHeartbeats 4000000 in
theorem sf_7_122 (X : qm_X) (h : qm_H) (a : Int32) (hp : 0 ≤ a.toInt ∧ a.toInt < 3) (Q : qm_Q) (hq : ∀ r : Int32, (0 ≤ r.toInt ∧ r.toInt < 65536) → Q (some (.int r)) h) : qm_PW X 7 [.ref 122, .int a] h Q := by
  have hp0 : 0 ≤ a.toInt ∧ a.toInt < 3 := hp
  refine qm_seg_ok (C := qc_7) (rt := some .char) rfl rfl (cuts := []) 400 _ _ _ _ ?_
  show qm_PW X 8 [.int a, .int 3] h _
  refine sf_8 X h a (3 : Int32) (by have : (3 : Int32).toInt = 3 := rfl; omega) _ (fun p1 => ?_)
  show (0 ≤ a.toInt ∧ a.toInt < 3) ∧ ((0 ≤ ((Int32.toUInt32 (((qm_sbyt.getD 2 []).getD a.toInt.toNat 0) &&& 255) % 65536).toInt32).toInt ∧ ((Int32.toUInt32 (((qm_sbyt.getD 2 []).getD a.toInt.toNat 0) &&& 255) % 65536).toInt32).toInt < 65536) ∧ Q (some (.int ((Int32.toUInt32 (((qm_sbyt.getD 2 []).getD a.toInt.toNat 0) &&& 255) % 65536).toInt32))) h)
  refine ⟨(by omega), ?_⟩
  exact ⟨(by exact i2c_rng _), hq ((Int32.toUInt32 (((qm_sbyt.getD 2 []).getD a.toInt.toNat 0) &&& 255) % 65536).toInt32) (by exact i2c_rng _)⟩
-- java/lang/String.charAt(I)C
set_option maxRecDepth 100000 in
set_option maxHeartbeats 4000000 in
theorem sf_6_112 (X : qm_X) (h : qm_H) (a : Int32) (hp : 0 ≤ a.toInt ∧ a.toInt < 3) (Q : qm_Q) (hq : ∀ r : Int32, (True) → Q (some (.int r)) h) : qm_PW X 6 [.ref 112, .int a] h Q := by
  have hp0 : 0 ≤ a.toInt ∧ a.toInt < 3 := hp
  refine qm_seg_ok (C := qc_6) (rt := some .char) rfl rfl (cuts := []) 400 _ _ _ _ ?_
  show qm_PW X 5 [.ref 112] h _
  refine sf_5_112 X h  trivial _ (fun r1 p2 => ?_)
  show (r1 = 0 → (False)) ∧ (¬ r1 = 0 → (qm_PW X 7 [.ref 122, .int a] h _))
  refine ⟨fun c3 => ?_, fun c4 => ?_⟩
  · exact (by first | omega | (subst_vars; contradiction) | simp_all)
  · refine sf_7_122 X h a (by omega) _ (fun r5 p6 => ?_)
    show (0 ≤ r5.toInt ∧ r5.toInt < 65536) ∧ Q (some (.int r5)) h
    exact ⟨(by omega), hq r5 trivial⟩
-- java/lang/String.coder()B
set_option maxRecDepth 100000 in
set_option maxHeartbeats 4000000 in
theorem sf_4_113 (X : qm_X) (h : qm_H) (hp : True) (Q : qm_Q) (hq : ∀ r : Int32, (r = 0) → Q (some (.int r)) h) : qm_PW X 4 [.ref 113] h Q := by
  refine qm_seg_ok (C := qc_4) (rt := some .byte) rfl rfl (cuts := []) 400 _ _ _ _ ?_
  show ((1 : Int32) = 0 → ((1 : Int32) = 0 ∧ Q (some (.int 1)) h)) ∧ (¬ (1 : Int32) = 0 → ((0 : Int32) = 0 ∧ Q (some (.int 0)) h))
  refine ⟨fun c1 => ?_, fun c2 => ?_⟩
  · exact absurd c1 (by decide)
  · exact ⟨rfl, hq 0 (by rfl)⟩
-- java/lang/String.isLatin1()Z
set_option maxRecDepth 100000 in
set_option maxHeartbeats 4000000 in
theorem sf_5_113 (X : qm_X) (h : qm_H) (hp : True) (Q : qm_Q) (hq : ∀ r : Int32, (r = 1) → Q (some (.int r)) h) : qm_PW X 5 [.ref 113] h Q := by
  refine qm_seg_ok (C := qc_5) (rt := some .boolean) rfl rfl (cuts := []) 400 _ _ _ _ ?_
  show ((1 : Int32) = 0 → (((0 : Int32) = 0 ∨ (0 : Int32) = 1) ∧ Q (some (.int 0)) h)) ∧ (¬ (1 : Int32) = 0 → ((¬ (0 : Int32) = 0 → (((0 : Int32) = 0 ∨ (0 : Int32) = 1) ∧ Q (some (.int 0)) h)) ∧ ((0 : Int32) = 0 → (((1 : Int32) = 0 ∨ (1 : Int32) = 1) ∧ Q (some (.int 1)) h))))
  refine ⟨fun c1 => ?_, fun c2 => ?_⟩
  · exact absurd c1 (by decide)
  · refine ⟨fun c3 => ?_, fun c4 => ?_⟩
    · exact absurd c3 (by decide)
    · exact ⟨Or.inr rfl, hq 1 (by rfl)⟩
-- java/lang/String.length()I
set_option maxRecDepth 100000 in
set_option maxHeartbeats 4000000 in
theorem sf_3_113 (X : qm_X) (h : qm_H) (hp : True) (Q : qm_Q) (hq : ∀ r : Int32, (r.toInt = 7) → Q (some (.int r)) h) : qm_PW X 3 [.ref 113] h Q := by
  refine qm_seg_ok (C := qc_3) (rt := some .int) rfl rfl (cuts := []) 400 _ _ _ _ ?_
  show qm_PW X 4 [.ref 113] h _
  refine sf_4_113 X h  trivial _ (fun r1 p2 => ?_)
  show Q (some (.int (7 >>> (r1 &&& 31)))) h
  exact hq (7 >>> (r1 &&& 31)) (by (subst_vars; rfl))
-- java/lang/StringLatin1.charAt([BI)C
set_option maxRecDepth 100000 in
set_option maxHeartbeats 4000000 in
theorem sf_7_123 (X : qm_X) (h : qm_H) (a : Int32) (hp : 0 ≤ a.toInt ∧ a.toInt < 7) (Q : qm_Q) (hq : ∀ r : Int32, (0 ≤ r.toInt ∧ r.toInt < 65536) → Q (some (.int r)) h) : qm_PW X 7 [.ref 123, .int a] h Q := by
  have hp0 : 0 ≤ a.toInt ∧ a.toInt < 7 := hp
  refine qm_seg_ok (C := qc_7) (rt := some .char) rfl rfl (cuts := []) 400 _ _ _ _ ?_
  show qm_PW X 8 [.int a, .int 7] h _
  refine sf_8 X h a (7 : Int32) (by have : (7 : Int32).toInt = 7 := rfl; omega) _ (fun p1 => ?_)
  show (0 ≤ a.toInt ∧ a.toInt < 7) ∧ ((0 ≤ ((Int32.toUInt32 (((qm_sbyt.getD 3 []).getD a.toInt.toNat 0) &&& 255) % 65536).toInt32).toInt ∧ ((Int32.toUInt32 (((qm_sbyt.getD 3 []).getD a.toInt.toNat 0) &&& 255) % 65536).toInt32).toInt < 65536) ∧ Q (some (.int ((Int32.toUInt32 (((qm_sbyt.getD 3 []).getD a.toInt.toNat 0) &&& 255) % 65536).toInt32))) h)
  refine ⟨(by omega), ?_⟩
  exact ⟨(by exact i2c_rng _), hq ((Int32.toUInt32 (((qm_sbyt.getD 3 []).getD a.toInt.toNat 0) &&& 255) % 65536).toInt32) (by exact i2c_rng _)⟩
-- java/lang/String.charAt(I)C
set_option maxRecDepth 100000 in
set_option maxHeartbeats 4000000 in
theorem sf_6_113 (X : qm_X) (h : qm_H) (a : Int32) (hp : 0 ≤ a.toInt ∧ a.toInt < 7) (Q : qm_Q) (hq : ∀ r : Int32, (True) → Q (some (.int r)) h) : qm_PW X 6 [.ref 113, .int a] h Q := by
  have hp0 : 0 ≤ a.toInt ∧ a.toInt < 7 := hp
  refine qm_seg_ok (C := qc_6) (rt := some .char) rfl rfl (cuts := []) 400 _ _ _ _ ?_
  show qm_PW X 5 [.ref 113] h _
  refine sf_5_113 X h  trivial _ (fun r1 p2 => ?_)
  show (r1 = 0 → (False)) ∧ (¬ r1 = 0 → (qm_PW X 7 [.ref 123, .int a] h _))
  refine ⟨fun c3 => ?_, fun c4 => ?_⟩
  · exact (by first | omega | (subst_vars; contradiction) | simp_all)
  · refine sf_7_123 X h a (by omega) _ (fun r5 p6 => ?_)
    show (0 ≤ r5.toInt ∧ r5.toInt < 65536) ∧ Q (some (.int r5)) h
    exact ⟨(by omega), hq r5 trivial⟩
-- java/lang/String.coder()B
set_option maxRecDepth 100000 in
set_option maxHeartbeats 4000000 in
theorem sf_4_114 (X : qm_X) (h : qm_H) (hp : True) (Q : qm_Q) (hq : ∀ r : Int32, (r = 0) → Q (some (.int r)) h) : qm_PW X 4 [.ref 114] h Q := by
  refine qm_seg_ok (C := qc_4) (rt := some .byte) rfl rfl (cuts := []) 400 _ _ _ _ ?_
  show ((1 : Int32) = 0 → ((1 : Int32) = 0 ∧ Q (some (.int 1)) h)) ∧ (¬ (1 : Int32) = 0 → ((0 : Int32) = 0 ∧ Q (some (.int 0)) h))
  refine ⟨fun c1 => ?_, fun c2 => ?_⟩
  · exact absurd c1 (by decide)
  · exact ⟨rfl, hq 0 (by rfl)⟩
-- java/lang/String.isLatin1()Z
set_option maxRecDepth 100000 in
set_option maxHeartbeats 4000000 in
theorem sf_5_114 (X : qm_X) (h : qm_H) (hp : True) (Q : qm_Q) (hq : ∀ r : Int32, (r = 1) → Q (some (.int r)) h) : qm_PW X 5 [.ref 114] h Q := by
  refine qm_seg_ok (C := qc_5) (rt := some .boolean) rfl rfl (cuts := []) 400 _ _ _ _ ?_
  show ((1 : Int32) = 0 → (((0 : Int32) = 0 ∨ (0 : Int32) = 1) ∧ Q (some (.int 0)) h)) ∧ (¬ (1 : Int32) = 0 → ((¬ (0 : Int32) = 0 → (((0 : Int32) = 0 ∨ (0 : Int32) = 1) ∧ Q (some (.int 0)) h)) ∧ ((0 : Int32) = 0 → (((1 : Int32) = 0 ∨ (1 : Int32) = 1) ∧ Q (some (.int 1)) h))))
  refine ⟨fun c1 => ?_, fun c2 => ?_⟩
  · exact absurd c1 (by decide)
  · refine ⟨fun c3 => ?_, fun c4 => ?_⟩
    · exact absurd c3 (by decide)
    · exact ⟨Or.inr rfl, hq 1 (by rfl)⟩
-- java/lang/String.length()I
set_option maxRecDepth 100000 in
set_option maxHeartbeats 4000000 in
theorem sf_3_114 (X : qm_X) (h : qm_H) (hp : True) (Q : qm_Q) (hq : ∀ r : Int32, (r.toInt = 3) → Q (some (.int r)) h) : qm_PW X 3 [.ref 114] h Q := by
  refine qm_seg_ok (C := qc_3) (rt := some .int) rfl rfl (cuts := []) 400 _ _ _ _ ?_
  show qm_PW X 4 [.ref 114] h _
  refine sf_4_114 X h  trivial _ (fun r1 p2 => ?_)
  show Q (some (.int (3 >>> (r1 &&& 31)))) h
  exact hq (3 >>> (r1 &&& 31)) (by (subst_vars; rfl))
-- java/lang/StringLatin1.charAt([BI)C
set_option maxRecDepth 100000 in
set_option maxHeartbeats 4000000 in
theorem sf_7_124 (X : qm_X) (h : qm_H) (a : Int32) (hp : 0 ≤ a.toInt ∧ a.toInt < 3) (Q : qm_Q) (hq : ∀ r : Int32, (0 ≤ r.toInt ∧ r.toInt < 65536) → Q (some (.int r)) h) : qm_PW X 7 [.ref 124, .int a] h Q := by
  have hp0 : 0 ≤ a.toInt ∧ a.toInt < 3 := hp
  refine qm_seg_ok (C := qc_7) (rt := some .char) rfl rfl (cuts := []) 400 _ _ _ _ ?_
  show qm_PW X 8 [.int a, .int 3] h _
  refine sf_8 X h a (3 : Int32) (by have : (3 : Int32).toInt = 3 := rfl; omega) _ (fun p1 => ?_)
  show (0 ≤ a.toInt ∧ a.toInt < 3) ∧ ((0 ≤ ((Int32.toUInt32 (((qm_sbyt.getD 4 []).getD a.toInt.toNat 0) &&& 255) % 65536).toInt32).toInt ∧ ((Int32.toUInt32 (((qm_sbyt.getD 4 []).getD a.toInt.toNat 0) &&& 255) % 65536).toInt32).toInt < 65536) ∧ Q (some (.int ((Int32.toUInt32 (((qm_sbyt.getD 4 []).getD a.toInt.toNat 0) &&& 255) % 65536).toInt32))) h)
  refine ⟨(by omega), ?_⟩
  exact ⟨(by exact i2c_rng _), hq ((Int32.toUInt32 (((qm_sbyt.getD 4 []).getD a.toInt.toNat 0) &&& 255) % 65536).toInt32) (by exact i2c_rng _)⟩
-- java/lang/String.charAt(I)C
set_option maxRecDepth 100000 in
set_option maxHeartbeats 4000000 in
theorem sf_6_114 (X : qm_X) (h : qm_H) (a : Int32) (hp : 0 ≤ a.toInt ∧ a.toInt < 3) (Q : qm_Q) (hq : ∀ r : Int32, (True) → Q (some (.int r)) h) : qm_PW X 6 [.ref 114, .int a] h Q := by
  have hp0 : 0 ≤ a.toInt ∧ a.toInt < 3 := hp
  refine qm_seg_ok (C := qc_6) (rt := some .char) rfl rfl (cuts := []) 400 _ _ _ _ ?_
  show qm_PW X 5 [.ref 114] h _
  refine sf_5_114 X h  trivial _ (fun r1 p2 => ?_)
  show (r1 = 0 → (False)) ∧ (¬ r1 = 0 → (qm_PW X 7 [.ref 124, .int a] h _))
  refine ⟨fun c3 => ?_, fun c4 => ?_⟩
  · exact (by first | omega | (subst_vars; contradiction) | simp_all)
  · refine sf_7_124 X h a (by omega) _ (fun r5 p6 => ?_)
    show (0 ≤ r5.toInt ∧ r5.toInt < 65536) ∧ Q (some (.int r5)) h
    exact ⟨(by omega), hq r5 trivial⟩
-- java/lang/String.coder()B
set_option maxRecDepth 100000 in
set_option maxHeartbeats 4000000 in
theorem sf_4_115 (X : qm_X) (h : qm_H) (hp : True) (Q : qm_Q) (hq : ∀ r : Int32, (r = 0) → Q (some (.int r)) h) : qm_PW X 4 [.ref 115] h Q := by
  refine qm_seg_ok (C := qc_4) (rt := some .byte) rfl rfl (cuts := []) 400 _ _ _ _ ?_
  show ((1 : Int32) = 0 → ((1 : Int32) = 0 ∧ Q (some (.int 1)) h)) ∧ (¬ (1 : Int32) = 0 → ((0 : Int32) = 0 ∧ Q (some (.int 0)) h))
  refine ⟨fun c1 => ?_, fun c2 => ?_⟩
  · exact absurd c1 (by decide)
  · exact ⟨rfl, hq 0 (by rfl)⟩
-- java/lang/String.isLatin1()Z
set_option maxRecDepth 100000 in
set_option maxHeartbeats 4000000 in
theorem sf_5_115 (X : qm_X) (h : qm_H) (hp : True) (Q : qm_Q) (hq : ∀ r : Int32, (r = 1) → Q (some (.int r)) h) : qm_PW X 5 [.ref 115] h Q := by
  refine qm_seg_ok (C := qc_5) (rt := some .boolean) rfl rfl (cuts := []) 400 _ _ _ _ ?_
  show ((1 : Int32) = 0 → (((0 : Int32) = 0 ∨ (0 : Int32) = 1) ∧ Q (some (.int 0)) h)) ∧ (¬ (1 : Int32) = 0 → ((¬ (0 : Int32) = 0 → (((0 : Int32) = 0 ∨ (0 : Int32) = 1) ∧ Q (some (.int 0)) h)) ∧ ((0 : Int32) = 0 → (((1 : Int32) = 0 ∨ (1 : Int32) = 1) ∧ Q (some (.int 1)) h))))
  refine ⟨fun c1 => ?_, fun c2 => ?_⟩
  · exact absurd c1 (by decide)
  · refine ⟨fun c3 => ?_, fun c4 => ?_⟩
    · exact absurd c3 (by decide)
    · exact ⟨Or.inr rfl, hq 1 (by rfl)⟩
-- java/lang/String.length()I
set_option maxRecDepth 100000 in
set_option maxHeartbeats 4000000 in
theorem sf_3_115 (X : qm_X) (h : qm_H) (hp : True) (Q : qm_Q) (hq : ∀ r : Int32, (r.toInt = 3) → Q (some (.int r)) h) : qm_PW X 3 [.ref 115] h Q := by
  refine qm_seg_ok (C := qc_3) (rt := some .int) rfl rfl (cuts := []) 400 _ _ _ _ ?_
  show qm_PW X 4 [.ref 115] h _
  refine sf_4_115 X h  trivial _ (fun r1 p2 => ?_)
  show Q (some (.int (3 >>> (r1 &&& 31)))) h
  exact hq (3 >>> (r1 &&& 31)) (by (subst_vars; rfl))
-- java/lang/StringLatin1.charAt([BI)C
set_option maxRecDepth 100000 in
set_option maxHeartbeats 4000000 in
theorem sf_7_125 (X : qm_X) (h : qm_H) (a : Int32) (hp : 0 ≤ a.toInt ∧ a.toInt < 3) (Q : qm_Q) (hq : ∀ r : Int32, (0 ≤ r.toInt ∧ r.toInt < 65536) → Q (some (.int r)) h) : qm_PW X 7 [.ref 125, .int a] h Q := by
  have hp0 : 0 ≤ a.toInt ∧ a.toInt < 3 := hp
  refine qm_seg_ok (C := qc_7) (rt := some .char) rfl rfl (cuts := []) 400 _ _ _ _ ?_
  show qm_PW X 8 [.int a, .int 3] h _
  refine sf_8 X h a (3 : Int32) (by have : (3 : Int32).toInt = 3 := rfl; omega) _ (fun p1 => ?_)
  show (0 ≤ a.toInt ∧ a.toInt < 3) ∧ ((0 ≤ ((Int32.toUInt32 (((qm_sbyt.getD 5 []).getD a.toInt.toNat 0) &&& 255) % 65536).toInt32).toInt ∧ ((Int32.toUInt32 (((qm_sbyt.getD 5 []).getD a.toInt.toNat 0) &&& 255) % 65536).toInt32).toInt < 65536) ∧ Q (some (.int ((Int32.toUInt32 (((qm_sbyt.getD 5 []).getD a.toInt.toNat 0) &&& 255) % 65536).toInt32))) h)
  refine ⟨(by omega), ?_⟩
  exact ⟨(by exact i2c_rng _), hq ((Int32.toUInt32 (((qm_sbyt.getD 5 []).getD a.toInt.toNat 0) &&& 255) % 65536).toInt32) (by exact i2c_rng _)⟩
-- java/lang/String.charAt(I)C
set_option maxRecDepth 100000 in
set_option maxHeartbeats 4000000 in
theorem sf_6_115 (X : qm_X) (h : qm_H) (a : Int32) (hp : 0 ≤ a.toInt ∧ a.toInt < 3) (Q : qm_Q) (hq : ∀ r : Int32, (True) → Q (some (.int r)) h) : qm_PW X 6 [.ref 115, .int a] h Q := by
  have hp0 : 0 ≤ a.toInt ∧ a.toInt < 3 := hp
  refine qm_seg_ok (C := qc_6) (rt := some .char) rfl rfl (cuts := []) 400 _ _ _ _ ?_
  show qm_PW X 5 [.ref 115] h _
  refine sf_5_115 X h  trivial _ (fun r1 p2 => ?_)
  show (r1 = 0 → (False)) ∧ (¬ r1 = 0 → (qm_PW X 7 [.ref 125, .int a] h _))
  refine ⟨fun c3 => ?_, fun c4 => ?_⟩
  · exact (by first | omega | (subst_vars; contradiction) | simp_all)
  · refine sf_7_125 X h a (by omega) _ (fun r5 p6 => ?_)
    show (0 ≤ r5.toInt ∧ r5.toInt < 65536) ∧ Q (some (.int r5)) h
    exact ⟨(by omega), hq r5 trivial⟩
end
section
-- ThreadBank$Sheets.isSheet(I)Z
set_option maxRecDepth 100000 in
set_option maxHeartbeats 4000000 in
theorem sf_65 (X : qm_X) (h : qm_H) (a : Int32) (hp : True) (Q : qm_Q) (hq : ∀ r : Int32, ((r = 0 ∨ r = 1) ∧ (¬ r = 0 → 0 ≤ a.toInt ∧ a.toInt < 4)) → Q (some (.int r)) h) : qm_PW X 65 [.int a] h Q := by
  refine qm_seg_ok (C := qc_65) (rt := some .boolean) rfl rfl (cuts := []) 400 _ _ _ _ ?_
  show (a.toInt < 0 → (((0 : Int32) = 0 ∨ (0 : Int32) = 1) ∧ Q (some (.int 0)) h)) ∧ (0 ≤ a.toInt → ((4 ≤ a.toInt → (((0 : Int32) = 0 ∨ (0 : Int32) = 1) ∧ Q (some (.int 0)) h)) ∧ (a.toInt < 4 → (((1 : Int32) = 0 ∨ (1 : Int32) = 1) ∧ Q (some (.int 1)) h))))
  refine ⟨fun c1 => ?_, fun c2 => ?_⟩
  · exact ⟨Or.inl rfl, hq 0 (by first | omega | exact ⟨Or.inl rfl, fun hc => absurd rfl hc⟩ | exact ⟨Or.inr rfl, fun hc => absurd hc (by decide)⟩ | (refine ⟨Or.inr rfl, fun _ => ?_⟩; omega) | (refine ⟨Or.inl rfl, fun _ => ?_⟩; omega) | (simp; done))⟩
  · refine ⟨fun c3 => ?_, fun c4 => ?_⟩
    · exact ⟨Or.inl rfl, hq 0 (by first | omega | exact ⟨Or.inl rfl, fun hc => absurd rfl hc⟩ | exact ⟨Or.inr rfl, fun hc => absurd hc (by decide)⟩ | (refine ⟨Or.inr rfl, fun _ => ?_⟩; omega) | (refine ⟨Or.inl rfl, fun _ => ?_⟩; omega) | (simp; done))⟩
    · exact ⟨Or.inr rfl, hq 1 (by first | omega | exact ⟨Or.inl rfl, fun hc => absurd rfl hc⟩ | exact ⟨Or.inr rfl, fun hc => absurd hc (by decide)⟩ | (refine ⟨Or.inr rfl, fun _ => ?_⟩; omega) | (refine ⟨Or.inl rfl, fun _ => ?_⟩; omega) | (simp; done))⟩
-- ThreadBank$Sheets.isLane(I)Z
set_option maxRecDepth 100000 in
set_option maxHeartbeats 4000000 in
theorem sf_66 (X : qm_X) (h : qm_H) (a : Int32) (hp : True) (Q : qm_Q) (hq : ∀ r : Int32, (r = 0 ∨ r = 1) → Q (some (.int r)) h) : qm_PW X 66 [.int a] h Q := by
  refine qm_seg_ok (C := qc_66) (rt := some .boolean) rfl rfl (cuts := []) 400 _ _ _ _ ?_
  show (a.toInt < 0 → (((0 : Int32) = 0 ∨ (0 : Int32) = 1) ∧ Q (some (.int 0)) h)) ∧ (0 ≤ a.toInt → ((3 ≤ a.toInt → (((0 : Int32) = 0 ∨ (0 : Int32) = 1) ∧ Q (some (.int 0)) h)) ∧ (a.toInt < 3 → (((1 : Int32) = 0 ∨ (1 : Int32) = 1) ∧ Q (some (.int 1)) h))))
  refine ⟨fun c1 => ?_, fun c2 => ?_⟩
  · exact ⟨Or.inl rfl, hq 0 (Or.inl rfl)⟩
  · refine ⟨fun c3 => ?_, fun c4 => ?_⟩
    · exact ⟨Or.inl rfl, hq 0 (Or.inl rfl)⟩
    · exact ⟨Or.inr rfl, hq 1 (Or.inr rfl)⟩
-- ThreadBank$Sheets.isNothing(I)Z
set_option maxRecDepth 100000 in
set_option maxHeartbeats 4000000 in
theorem sf_67_34 (X : qm_X) (h : qm_H) (a : Int32) (hp : True) (Q : qm_Q) (hq : ∀ r : Int32, ((r = 0 ∨ r = 1) ∧ (r = 0 → 0 ≤ a.toInt ∧ a.toInt < 4)) → Q (some (.int r)) h) : qm_PW X 67 [.ref 34, .int a] h Q := by
  refine qm_seg_ok (C := qc_67) (rt := some .boolean) rfl rfl (cuts := []) 400 _ _ _ _ ?_
  show qm_PW X 65 [.int a] h _
  refine sf_65 X h a trivial _ (fun r1 p2 => ?_)
  show (r1 = 0 → (((1 : Int32) = 0 ∨ (1 : Int32) = 1) ∧ Q (some (.int 1)) h)) ∧ (¬ r1 = 0 → ((0 ≤ a.toInt ∧ a.toInt < 4) ∧ ((¬ (h 37 a.toInt.toNat) = (-4 : Int32) → (((0 : Int32) = 0 ∨ (0 : Int32) = 1) ∧ Q (some (.int 0)) h)) ∧ ((h 37 a.toInt.toNat) = (-4 : Int32) → (((1 : Int32) = 0 ∨ (1 : Int32) = 1) ∧ Q (some (.int 1)) h)))))
  refine ⟨fun c3 => ?_, fun c4 => ?_⟩
  · exact ⟨Or.inr rfl, hq 1 (by first | omega | exact ⟨Or.inl rfl, fun hc => absurd rfl hc⟩ | exact ⟨Or.inr rfl, fun hc => absurd hc (by decide)⟩ | (refine ⟨Or.inr rfl, fun _ => ?_⟩; omega) | (refine ⟨Or.inl rfl, fun _ => ?_⟩; omega) | (simp; done))⟩
  · have := p2.2 c4
    refine ⟨(by omega), ?_⟩
    refine ⟨fun c5 => ?_, fun c6 => ?_⟩
    · exact ⟨Or.inl rfl, hq 0 (by first | omega | exact ⟨Or.inl rfl, fun hc => absurd rfl hc⟩ | exact ⟨Or.inr rfl, fun hc => absurd hc (by decide)⟩ | (refine ⟨Or.inr rfl, fun _ => ?_⟩; omega) | (refine ⟨Or.inl rfl, fun _ => ?_⟩; omega) | (simp; done))⟩
    · exact ⟨Or.inr rfl, hq 1 (by first | omega | exact ⟨Or.inl rfl, fun hc => absurd rfl hc⟩ | exact ⟨Or.inr rfl, fun hc => absurd hc (by decide)⟩ | (refine ⟨Or.inr rfl, fun _ => ?_⟩; omega) | (refine ⟨Or.inl rfl, fun _ => ?_⟩; omega) | (simp; done))⟩
-- ThreadBank$Sheets.hasCell(II)Z
set_option maxRecDepth 100000 in
set_option maxHeartbeats 4000000 in
theorem sf_68_34 (X : qm_X) (h : qm_H) (a : Int32) (b : Int32) (hp : True) (Q : qm_Q) (hq : ∀ r : Int32, ((r = 0 ∨ r = 1) ∧ (¬ r = 0 → (0 ≤ a.toInt ∧ a.toInt < 4) ∧ 0 ≤ b.toInt ∧ b.toInt < (h 37 a.toInt.toNat).toInt)) → Q (some (.int r)) h) : qm_PW X 68 [.ref 34, .int a, .int b] h Q := by
  refine qm_seg_ok (C := qc_68) (rt := some .boolean) rfl rfl (cuts := []) 400 _ _ _ _ ?_
  show qm_PW X 67 [.ref 34, .int a] h _
  refine sf_67_34 X h a trivial _ (fun r1 p2 => ?_)
  show (¬ r1 = 0 → (((0 : Int32) = 0 ∨ (0 : Int32) = 1) ∧ Q (some (.int 0)) h)) ∧ (r1 = 0 → ((b.toInt < 0 → (((0 : Int32) = 0 ∨ (0 : Int32) = 1) ∧ Q (some (.int 0)) h)) ∧ (0 ≤ b.toInt → ((0 ≤ a.toInt ∧ a.toInt < 4) ∧ (((h 37 a.toInt.toNat).toInt ≤ b.toInt → (((0 : Int32) = 0 ∨ (0 : Int32) = 1) ∧ Q (some (.int 0)) h)) ∧ (b.toInt < (h 37 a.toInt.toNat).toInt → (((1 : Int32) = 0 ∨ (1 : Int32) = 1) ∧ Q (some (.int 1)) h)))))))
  refine ⟨fun c3 => ?_, fun c4 => ?_⟩
  · exact ⟨Or.inl rfl, hq 0 (by first | omega | exact ⟨Or.inl rfl, fun hc => absurd rfl hc⟩ | exact ⟨Or.inr rfl, fun hc => absurd hc (by decide)⟩ | (refine ⟨Or.inr rfl, fun _ => ?_⟩; omega) | (refine ⟨Or.inl rfl, fun _ => ?_⟩; omega) | (simp; done))⟩
  · have := p2.2 c4
    refine ⟨fun c5 => ?_, fun c6 => ?_⟩
    · exact ⟨Or.inl rfl, hq 0 (by first | omega | exact ⟨Or.inl rfl, fun hc => absurd rfl hc⟩ | exact ⟨Or.inr rfl, fun hc => absurd hc (by decide)⟩ | (refine ⟨Or.inr rfl, fun _ => ?_⟩; omega) | (refine ⟨Or.inl rfl, fun _ => ?_⟩; omega) | (simp; done))⟩
    · refine ⟨(by omega), ?_⟩
      refine ⟨fun c7 => ?_, fun c8 => ?_⟩
      · exact ⟨Or.inl rfl, hq 0 (by first | omega | exact ⟨Or.inl rfl, fun hc => absurd rfl hc⟩ | exact ⟨Or.inr rfl, fun hc => absurd hc (by decide)⟩ | (refine ⟨Or.inr rfl, fun _ => ?_⟩; omega) | (refine ⟨Or.inl rfl, fun _ => ?_⟩; omega) | (simp; done))⟩
      · exact ⟨Or.inr rfl, hq 1 (by first | omega | exact ⟨Or.inl rfl, fun hc => absurd rfl hc⟩ | exact ⟨Or.inr rfl, fun hc => absurd hc (by decide)⟩ | (refine ⟨Or.inr rfl, fun _ => ?_⟩; omega) | (refine ⟨Or.inl rfl, fun _ => ?_⟩; omega) | (simp; done))⟩
-- ThreadBank$Sheets.cell(II)I
set_option maxRecDepth 100000 in
set_option maxHeartbeats 4000000 in
theorem sf_69_34 (X : qm_X) (h : qm_H) (a : Int32) (b : Int32) (hp : sq h) (Q : qm_Q) (hq : ∀ r : Int32, (True) → Q (some (.int r)) h) : qm_PW X 69 [.ref 34, .int a, .int b] h Q := by
  have hmsq : sq h := hp
  refine qm_seg_ok (C := qc_69) (rt := some .int) rfl rfl (cuts := []) 400 _ _ _ _ ?_
  show qm_PW X 68 [.ref 34, .int a, .int b] h _
  refine sf_68_34 X h a b trivial _ (fun r1 p2 => ?_)
  show (r1 = 0 → (Q (some (.int 0)) h)) ∧ (¬ r1 = 0 → ((0 ≤ ((40 * a) + b).toInt ∧ ((40 * a) + b).toInt < 160) ∧ (Q (some (.int (h 35 ((40 * a) + b).toInt.toNat))) h)))
  refine ⟨fun c3 => ?_, fun c4 => ?_⟩
  · exact hq 0 trivial
  · have := p2.2 c4
    refine ⟨(by have := hmsq (a.toInt.toNat); have := ti_mulL (40 : Int32) 40 rfl a; have := ti_add (40 * a) b; omega), ?_⟩
    exact hq (h 35 ((40 * a) + b).toInt.toNat) trivial
-- ThreadBank$Sheets.renew(III)V
set_option maxRecDepth 100000 in
set_option maxHeartbeats 4000000 in
theorem sf_70_34_c (X : qm_X) (h : qm_H) (a : Int32) (b : Int32) (c : Int32) (hp : sq h) (Q : qm_Q) (hq : ∀ h' : qm_H, (sq h' ∧ (∀ k, (k < 35 ∨ 37 < k) → h' k = h k)) → Q none h') : ∀ n : Nat, (∀ (l4 : Int32) (g : qm_H), ((0 ≤ l4.toInt ∧ l4.toInt ≤ 40 ∧ 0 ≤ a.toInt ∧ a.toInt < 4 ∧ 0 ≤ c.toInt ∧ c.toInt ≤ 40) ∧ sq g ∧ ∀ k, (k < 35 ∨ 37 < k) → g k = h k) → (40 - l4.toInt).toNat < n → qm_PA X 70 20 [(0, .ref 34), (1, .int a), (2, .int b), (3, .int c), (4, .int l4)] [] g Q) := by
  have hmsq : sq h := hp
  intro n
  induction n with
  | zero => exact fun _ _ _ h0 => absurd h0 (Nat.not_lt_zero _)
  | succ n ih =>
    intro l4 g hi hr
    obtain ⟨hi0, hgsq, hgf⟩ := hi
    refine qm_seg_ok (C := qc_70) (rt := none) rfl rfl (cuts := [(20, [0, 1, 2, 3, 4])]) 400 _ _ _ _ ?_
    show (c.toInt ≤ l4.toInt → ((0 ≤ a.toInt ∧ a.toInt < 4) ∧ ((0 ≤ a.toInt ∧ a.toInt < 4) ∧ (Q none (qm_row (qm_row g 36 (upd (g 36) a.toInt.toNat b)) 37 (upd (g 37) a.toInt.toNat c)))))) ∧ (l4.toInt < c.toInt → ((0 ≤ ((40 * a) + l4).toInt ∧ ((40 * a) + l4).toInt < 160) ∧ (qm_PA X 70 20 [(0, .ref 34), (1, .int a), (2, .int b), (3, .int c), (4, .int (l4 + 1))] [] (qm_row g 35 (upd (g 35) ((40 * a) + l4).toInt.toNat 0)) Q)))
    refine ⟨fun c1 => ?_, fun c2 => ?_⟩
    · refine ⟨(by omega), ?_⟩
      refine ⟨(by omega), ?_⟩
      exact hq (qm_row (qm_row g 36 (upd (g 36) a.toInt.toNat b)) 37 (upd (g 37) a.toInt.toNat c)) ⟨(by intro j; show (upd _ _ _ j).toInt ≤ 40; unfold upd; (split <;> first | omega | exact hgsq j)), (fun k hk => by simp only [qm_row]; rw [if_neg (by omega)]; rw [if_neg (by omega)]; exact hgf k hk)⟩
    · refine ⟨(by have := ti_mulL (40 : Int32) 40 rfl a; have := ti_add (40 * a) l4; omega), ?_⟩
      exact ih (l4 + 1) (qm_row g 35 (upd (g 35) ((40 * a) + l4).toInt.toNat 0)) ⟨(by have := ti_addK l4 (1 : Int32) 1 rfl; show 0 ≤ (l4 + 1).toInt ∧ (l4 + 1).toInt ≤ 40 ∧ 0 ≤ a.toInt ∧ a.toInt < 4 ∧ 0 ≤ c.toInt ∧ c.toInt ≤ 40; omega), (by exact hgsq), (fun k hk => by simp only [qm_row]; rw [if_neg (by omega)]; exact hgf k hk)⟩ (by have := ti_addK l4 (1 : Int32) 1 rfl; show (40 - (l4 + 1).toInt).toNat < n; omega)
set_option maxRecDepth 100000 in
set_option maxHeartbeats 4000000 in
theorem sf_70_34 (X : qm_X) (h : qm_H) (a : Int32) (b : Int32) (c : Int32) (hp : sq h) (Q : qm_Q) (hq : ∀ h' : qm_H, (sq h' ∧ (∀ k, (k < 35 ∨ 37 < k) → h' k = h k)) → Q none h') : qm_PW X 70 [.ref 34, .int a, .int b, .int c] h Q := by
  have hmsq : sq h := hp
  refine qm_seg_ok (C := qc_70) (rt := none) rfl rfl (cuts := [(20, [0, 1, 2, 3, 4])]) 400 _ _ _ _ ?_
  show qm_PW X 65 [.int a] h _
  refine sf_65 X h a trivial _ (fun r1 p2 => ?_)
  show (r1 = 0 → (Q none h)) ∧ (¬ r1 = 0 → ((c.toInt < 0 → (Q none h)) ∧ (0 ≤ c.toInt → ((40 < c.toInt → (Q none h)) ∧ (c.toInt ≤ 40 → (qm_PA X 70 20 [(0, .ref 34), (1, .int a), (2, .int b), (3, .int c), (4, .int 0)] [] h Q))))))
  refine ⟨fun c3 => ?_, fun c4 => ?_⟩
  · exact hq h ⟨hmsq, (fun k hk => rfl)⟩
  · have := p2.2 c4
    refine ⟨fun c5 => ?_, fun c6 => ?_⟩
    · exact hq h ⟨hmsq, (fun k hk => rfl)⟩
    · refine ⟨fun c7 => ?_, fun c8 => ?_⟩
      · exact hq h ⟨hmsq, (fun k hk => rfl)⟩
      · exact (sf_70_34_c X h a b c hp Q hq _) (0 : Int32) h ⟨(by have : (0 : Int32).toInt = 0 := rfl; show 0 ≤ (0 : Int32).toInt ∧ (0 : Int32).toInt ≤ 40 ∧ 0 ≤ a.toInt ∧ a.toInt < 4 ∧ 0 ≤ c.toInt ∧ c.toInt ≤ 40; omega), hmsq, (fun k hk => rfl)⟩ (Nat.lt_succ_self _)
-- ThreadBank$Sheets.lowestBits(II)I
set_option maxRecDepth 100000 in
set_option maxHeartbeats 4000000 in
theorem sf_72 (X : qm_X) (h : qm_H) (a : Int32) (b : Int32) (hp : True) (Q : qm_Q) (hq : ∀ r : Int32, (True) → Q (some (.int r)) h) : qm_PW X 72 [.int a, .int b] h Q := by
  refine qm_seg_ok (C := qc_72) (rt := some .int) rfl rfl (cuts := []) 400 _ _ _ _ ?_
  show ((a = 0 → (Q (some (.int ((Int32.toInt8 b).toInt32))) h)) ∧ (¬ a = 0 → ((a = 1 → (Q (some (.int ((Int32.toInt16 b).toInt32))) h)) ∧ (¬ a = 1 → (Q (some (.int b)) h)))))
  refine ⟨fun c1 => ?_, fun c2 => ?_⟩
  · exact hq ((Int32.toInt8 b).toInt32) trivial
  · refine ⟨fun c3 => ?_, fun c4 => ?_⟩
    · exact hq ((Int32.toInt16 b).toInt32) trivial
    · exact hq b trivial
-- ThreadBank$Sheets.write(III)V
set_option maxRecDepth 100000 in
set_option maxHeartbeats 4000000 in
theorem sf_71_34 (X : qm_X) (h : qm_H) (a : Int32) (b : Int32) (c : Int32) (hp : sq h) (Q : qm_Q) (hq : ∀ h' : qm_H, ((∀ k, (k < 35 ∨ 35 < k) → h' k = h k)) → Q none h') : qm_PW X 71 [.ref 34, .int a, .int b, .int c] h Q := by
  have hmsq : sq h := hp
  refine qm_seg_ok (C := qc_71) (rt := none) rfl rfl (cuts := []) 400 _ _ _ _ ?_
  show qm_PW X 68 [.ref 34, .int a, .int b] h _
  refine sf_68_34 X h a b trivial _ (fun r1 p2 => ?_)
  show (r1 = 0 → (Q none h)) ∧ (¬ r1 = 0 → ((0 ≤ a.toInt ∧ a.toInt < 4) ∧ (qm_PW X 72 [.int (h 36 a.toInt.toNat), .int c] h _)))
  refine ⟨fun c3 => ?_, fun c4 => ?_⟩
  · exact hq h (fun k hk => rfl)
  · have := p2.2 c4
    refine ⟨(by have := hmsq (a.toInt.toNat); omega), ?_⟩
    refine sf_72 X h (h 36 a.toInt.toNat) c trivial _ (fun r5 p6 => ?_)
    show (0 ≤ ((40 * a) + b).toInt ∧ ((40 * a) + b).toInt < 160) ∧ (Q none (qm_row h 35 (upd (h 35) ((40 * a) + b).toInt.toNat r5)))
    refine ⟨(by have := hmsq (a.toInt.toNat); have := ti_mulL (40 : Int32) 40 rfl a; have := ti_add (40 * a) b; omega), ?_⟩
    exact hq (qm_row h 35 (upd (h 35) ((40 * a) + b).toInt.toNat r5)) (fun k hk => by simp only [qm_row]; rw [if_neg (by omega)])
-- ThreadBank$Sheets.faultAsOf(II)I
set_option maxRecDepth 100000 in
set_option maxHeartbeats 4000000 in
theorem sf_73_34 (X : qm_X) (h : qm_H) (a : Int32) (b : Int32) (hp : True) (Q : qm_Q) (hq : ∀ r : Int32, (True) → Q (some (.int r)) h) : qm_PW X 73 [.ref 34, .int a, .int b] h Q := by
  refine qm_seg_ok (C := qc_73) (rt := some .int) rfl rfl (cuts := []) 400 _ _ _ _ ?_
  show qm_PW X 67 [.ref 34, .int a] h _
  refine sf_67_34 X h a trivial _ (fun r1 p2 => ?_)
  show (¬ r1 = 0 → (Q (some (.int 0)) h)) ∧ (r1 = 0 → ((0 ≤ a.toInt ∧ a.toInt < 4) ∧ ((¬ (h 36 a.toInt.toNat) = b → (Q (some (.int 3)) h)) ∧ ((h 36 a.toInt.toNat) = b → (Q (some (.int 0)) h)))))
  refine ⟨fun c3 => ?_, fun c4 => ?_⟩
  · exact hq 0 trivial
  · have := p2.2 c4
    refine ⟨(by omega), ?_⟩
    refine ⟨fun c5 => ?_, fun c6 => ?_⟩
    · exact hq 3 trivial
    · exact hq 0 trivial
-- ThreadBank$Sheets.faultOfThree(II)I
set_option maxRecDepth 100000 in
set_option maxHeartbeats 4000000 in
theorem sf_74_34 (X : qm_X) (h : qm_H) (a : Int32) (b : Int32) (hp : sq h) (Q : qm_Q) (hq : ∀ r : Int32, (True) → Q (some (.int r)) h) : qm_PW X 74 [.ref 34, .int a, .int b] h Q := by
  have hmsq : sq h := hp
  refine qm_seg_ok (C := qc_74) (rt := some .int) rfl rfl (cuts := []) 400 _ _ _ _ ?_
  show qm_PW X 67 [.ref 34, .int a] h _
  refine sf_67_34 X h a trivial _ (fun r1 p2 => ?_)
  show (r1 = 0 → (qm_PW X 68 [.ref 34, .int a, .int b] h _)) ∧ (¬ r1 = 0 → (Q (some (.int 1)) h))
  refine ⟨fun c3 => ?_, fun c4 => ?_⟩
  · have := p2.2 c3
    refine sf_68_34 X h a b trivial _ (fun r5 p6 => ?_)
    show (r5 = 0 → (Q (some (.int 2)) h)) ∧ (¬ r5 = 0 → (qm_PW X 68 [.ref 34, .int a, .int (b + 1)] h _))
    refine ⟨fun c7 => ?_, fun c8 => ?_⟩
    · exact hq 2 trivial
    · have := p6.2 c8
      refine sf_68_34 X h a (b + 1) trivial _ (fun r9 p10 => ?_)
      show (r9 = 0 → (Q (some (.int 2)) h)) ∧ (¬ r9 = 0 → (qm_PW X 68 [.ref 34, .int a, .int (b + 2)] h _))
      refine ⟨fun c11 => ?_, fun c12 => ?_⟩
      · exact hq 2 trivial
      · have := p10.2 c12
        refine sf_68_34 X h a (b + 2) trivial _ (fun r13 p14 => ?_)
        show (r13 = 0 → (Q (some (.int 2)) h)) ∧ (¬ r13 = 0 → (Q (some (.int 0)) h))
        refine ⟨fun c15 => ?_, fun c16 => ?_⟩
        · exact hq 2 trivial
        · have := p14.2 c16
          exact hq 0 trivial
  · exact hq 1 trivial
end
section
-- ThreadBank$Clearing.sizeOf(I)I
set_option maxRecDepth 100000 in
set_option maxHeartbeats 4000000 in
theorem sf_20 (X : qm_X) (h : qm_H) (a : Int32) (hp : True) (Q : qm_Q) (hq : ∀ r : Int32, (0 ≤ r.toInt ∧ r.toInt ≤ 4) → Q (some (.int r)) h) : qm_PW X 20 [.int a] h Q := by
  refine qm_seg_ok (C := qc_20) (rt := some .int) rfl rfl (cuts := []) 400 _ _ _ _ ?_
  show (a.toInt < 0 → (Q (some (.int 0)) h)) ∧ (0 ≤ a.toInt → ((100 ≤ a.toInt → (Q (some (.int 0)) h)) ∧ (a.toInt < 100 → ((0 ≤ a.toInt ∧ a.toInt < 100) ∧ (Q (some (.int (qm_rings.getD a.toInt.toNat 0))) h)))))
  refine ⟨fun c1 => ?_, fun c2 => ?_⟩
  · exact hq 0 (by have : (0 : Int32).toInt = 0 := rfl; first | omega | (have := rings_le a.toInt.toNat; omega) | decide)
  · refine ⟨fun c3 => ?_, fun c4 => ?_⟩
    · exact hq 0 (by have : (0 : Int32).toInt = 0 := rfl; first | omega | (have := rings_le a.toInt.toNat; omega) | decide)
    · refine ⟨(by omega), ?_⟩
      exact hq (qm_rings.getD a.toInt.toNat 0) (by first | omega | (have := rings_le a.toInt.toNat; omega) | decide)
-- ThreadBank$Clearing.clerkIn(II)I
set_option maxRecDepth 100000 in
set_option maxHeartbeats 4000000 in
theorem sf_21 (X : qm_X) (h : qm_H) (a : Int32) (b : Int32) (hp : True) (Q : qm_Q) (hq : ∀ r : Int32, (True) → Q (some (.int r)) h) : qm_PW X 21 [.int a, .int b] h Q := by
  refine qm_seg_ok (C := qc_21) (rt := some .int) rfl rfl (cuts := []) 400 _ _ _ _ ?_
  show qm_PW X 20 [.int a] h _
  refine sf_20 X h a trivial _ (fun r1 p2 => ?_)
  show (r1.toInt ≤ b.toInt → ((((a + 1) + 0).toInt < 0 → (Q (some (.int 0)) h)) ∧ (0 ≤ ((a + 1) + 0).toInt → ((100 ≤ ((a + 1) + 0).toInt → (Q (some (.int 0)) h)) ∧ (((a + 1) + 0).toInt < 100 → ((0 ≤ ((a + 1) + 0).toInt ∧ ((a + 1) + 0).toInt < 100) ∧ (Q (some (.int (qm_rings.getD ((a + 1) + 0).toInt.toNat 0))) h))))))) ∧ (b.toInt < r1.toInt → ((((a + 1) + b).toInt < 0 → (Q (some (.int 0)) h)) ∧ (0 ≤ ((a + 1) + b).toInt → ((100 ≤ ((a + 1) + b).toInt → (Q (some (.int 0)) h)) ∧ (((a + 1) + b).toInt < 100 → ((0 ≤ ((a + 1) + b).toInt ∧ ((a + 1) + b).toInt < 100) ∧ (Q (some (.int (qm_rings.getD ((a + 1) + b).toInt.toNat 0))) h)))))))
  refine ⟨fun c3 => ?_, fun c4 => ?_⟩
  · refine ⟨fun c5 => ?_, fun c6 => ?_⟩
    · exact hq 0 trivial
    · refine ⟨fun c7 => ?_, fun c8 => ?_⟩
      · exact hq 0 trivial
      · refine ⟨(by have := ti_addK a (1 : Int32) 1 rfl; have := ti_addK (a + 1) (0 : Int32) 0 rfl; omega), ?_⟩
        exact hq (qm_rings.getD ((a + 1) + 0).toInt.toNat 0) trivial
  · refine ⟨fun c9 => ?_, fun c10 => ?_⟩
    · exact hq 0 trivial
    · refine ⟨fun c11 => ?_, fun c12 => ?_⟩
      · exact hq 0 trivial
      · refine ⟨(by have := ti_addK a (1 : Int32) 1 rfl; have := ti_add (a + 1) b; omega), ?_⟩
        exact hq (qm_rings.getD ((a + 1) + b).toInt.toNat 0) trivial
-- ThreadBank$Clearing.begin(LThreadBank$Memory;)V
set_option maxRecDepth 100000 in
set_option maxHeartbeats 4000000 in
theorem sf_10_32_1_c (X : qm_X) (h : qm_H) (hp : mq 1 h) (Q : qm_Q) (hq : ∀ h' : qm_H, ((∀ k, (k < 33 ∨ 33 < k) → h' k = h k)) → Q none h') : ∀ n : Nat, (∀ (l2 : Int32) (g : qm_H), ((0 ≤ l2.toInt ∧ l2.toInt ≤ 4) ∧ mq 1 g ∧ ∀ k, (k < 33 ∨ 33 < k) → g k = h k) → ((4 - l2.toInt) * 100 + 50).toNat < n → qm_PA X 10 2 [(0, .ref 32), (1, .ref 1), (2, .int l2)] [] g Q) ∧ (∀ (l2 : Int32) (l3 : Int32) (g : qm_H), ((0 ≤ l2.toInt ∧ l2.toInt ≤ 3 ∧ 0 ≤ l3.toInt ∧ l3.toInt ≤ 4) ∧ mq 1 g ∧ ∀ k, (k < 33 ∨ 33 < k) → g k = h k) → ((4 - l2.toInt) * 100 + 40 - l3.toInt).toNat < n → qm_PA X 10 9 [(0, .ref 32), (1, .ref 1), (2, .int l2), (3, .int l3)] [] g Q) := by
  have hm1 : mq 1 h := hp
  have ⟨⟨_, _⟩, ⟨_, _⟩, _, _⟩ := hm1
  intro n
  induction n with
  | zero => exact ⟨fun _ _ _ h0 => absurd h0 (Nat.not_lt_zero _), fun _ _ _ _ h0 => absurd h0 (Nat.not_lt_zero _)⟩
  | succ n ih =>
    refine ⟨?_, ?_⟩
    · intro l2 g hi hr
      obtain ⟨hi0, hg1, hgf⟩ := hi
      have ⟨⟨_, _⟩, ⟨_, _⟩, _, _⟩ := hg1
      refine qm_seg_ok (C := qc_10) (rt := none) rfl rfl (cuts := [(2, [0, 1, 2]), (9, [0, 1, 2, 3])]) 400 _ _ _ _ ?_
      show (4 ≤ l2.toInt → (Q none g)) ∧ (l2.toInt < 4 → (qm_PA X 10 9 [(0, .ref 32), (1, .ref 1), (2, .int l2), (3, .int 0)] [] g Q))
      refine ⟨fun c1 => ?_, fun c2 => ?_⟩
      · exact hq g (fun k hk => hgf k hk)
      · exact ih.2 l2 (0 : Int32) g ⟨(by have : (0 : Int32).toInt = 0 := rfl; show 0 ≤ l2.toInt ∧ l2.toInt ≤ 3 ∧ 0 ≤ (0 : Int32).toInt ∧ (0 : Int32).toInt ≤ 4; omega), hg1, (fun k hk => hgf k hk)⟩ (by have : (0 : Int32).toInt = 0 := rfl; show ((4 - l2.toInt) * 100 + 40 - (0 : Int32).toInt).toNat < n; omega)
    · intro l2 l3 g hi hr
      obtain ⟨hi0, hg1, hgf⟩ := hi
      have ⟨⟨_, _⟩, ⟨_, _⟩, _, _⟩ := hg1
      refine qm_seg_ok (C := qc_10) (rt := none) rfl rfl (cuts := [(2, [0, 1, 2]), (9, [0, 1, 2, 3])]) 400 _ _ _ _ ?_
      show (4 ≤ l3.toInt → (qm_PA X 10 2 [(0, .ref 32), (1, .ref 1), (2, .int (l2 + 1))] [] g Q)) ∧ (l3.toInt < 4 → (qm_PW X 53 [.ref 1, .int ((10 * l2) + l3), .int 9] g _))
      refine ⟨fun c1 => ?_, fun c2 => ?_⟩
      · exact ih.1 (l2 + 1) g ⟨(by have := ti_addK l2 (1 : Int32) 1 rfl; show 0 ≤ (l2 + 1).toInt ∧ (l2 + 1).toInt ≤ 4; omega), hg1, (fun k hk => hgf k hk)⟩ (by have := ti_addK l2 (1 : Int32) 1 rfl; show ((4 - (l2 + 1).toInt) * 100 + 50).toNat < n; omega)
      · refine sf_53_1 X g ((10 * l2) + l3) (9 : Int32) hg1 _ (fun r3 p4 => ?_)
        show (0 ≤ ((4 * l2) + l3).toInt ∧ ((4 * l2) + l3).toInt < 16) ∧ (qm_PA X 10 9 [(0, .ref 32), (1, .ref 1), (2, .int l2), (3, .int (l3 + 1))] [] (qm_row g 33 (upd (g 33) ((4 * l2) + l3).toInt.toNat r3)) Q)
        refine ⟨(by have := ti_mulL (4 : Int32) 4 rfl l2; have := ti_add (4 * l2) l3; omega), ?_⟩
        exact ih.2 l2 (l3 + 1) (qm_row g 33 (upd (g 33) ((4 * l2) + l3).toInt.toNat r3)) ⟨(by have := ti_addK l3 (1 : Int32) 1 rfl; show 0 ≤ l2.toInt ∧ l2.toInt ≤ 3 ∧ 0 ≤ (l3 + 1).toInt ∧ (l3 + 1).toInt ≤ 4; omega), (by exact hg1), (fun k hk => by simp only [qm_row]; rw [if_neg (by omega)]; exact hgf k hk)⟩ (by have := ti_addK l3 (1 : Int32) 1 rfl; show ((4 - l2.toInt) * 100 + 40 - (l3 + 1).toInt).toNat < n; omega)
set_option maxRecDepth 100000 in
set_option maxHeartbeats 4000000 in
theorem sf_10_32_1 (X : qm_X) (h : qm_H) (hp : mq 1 h) (Q : qm_Q) (hq : ∀ h' : qm_H, ((∀ k, (k < 33 ∨ 33 < k) → h' k = h k)) → Q none h') : qm_PW X 10 [.ref 32, .ref 1] h Q := by
  have hm1 : mq 1 h := hp
  have ⟨⟨_, _⟩, ⟨_, _⟩, _, _⟩ := hm1
  refine qm_seg_ok (C := qc_10) (rt := none) rfl rfl (cuts := [(2, [0, 1, 2]), (9, [0, 1, 2, 3])]) 400 _ _ _ _ ?_
  show qm_PA X 10 2 [(0, .ref 32), (1, .ref 1), (2, .int 0)] [] h Q
  exact (sf_10_32_1_c X h hp Q hq _).1 (0 : Int32) h ⟨(by have : (0 : Int32).toInt = 0 := rfl; show 0 ≤ (0 : Int32).toInt ∧ (0 : Int32).toInt ≤ 4; omega), hm1, (fun k hk => rfl)⟩ (Nat.lt_succ_self _)
-- ThreadBank$Clearing.owes(II)I
set_option maxRecDepth 100000 in
set_option maxHeartbeats 4000000 in
theorem sf_11_32 (X : qm_X) (h : qm_H) (a : Int32) (b : Int32) (hp : True) (Q : qm_Q) (hq : ∀ r : Int32, (True) → Q (some (.int r)) h) : qm_PW X 11 [.ref 32, .int a, .int b] h Q := by
  refine qm_seg_ok (C := qc_11) (rt := some .int) rfl rfl (cuts := []) 400 _ _ _ _ ?_
  show (((4 * a) + b).toInt < 0 → (Q (some (.int 0)) h)) ∧ (0 ≤ ((4 * a) + b).toInt → ((16 ≤ ((4 * a) + b).toInt → (Q (some (.int 0)) h)) ∧ (((4 * a) + b).toInt < 16 → ((0 ≤ ((4 * a) + b).toInt ∧ ((4 * a) + b).toInt < 16) ∧ (Q (some (.int (h 33 ((4 * a) + b).toInt.toNat))) h)))))
  refine ⟨fun c1 => ?_, fun c2 => ?_⟩
  · exact hq 0 trivial
  · refine ⟨fun c3 => ?_, fun c4 => ?_⟩
    · exact hq 0 trivial
    · refine ⟨(by have := ti_mulL (4 : Int32) 4 rfl a; have := ti_add (4 * a) b; omega), ?_⟩
      exact hq (h 33 ((4 * a) + b).toInt.toNat) trivial
-- ThreadBank$Clearing.owedStill()I
set_option maxRecDepth 100000 in
set_option maxHeartbeats 4000000 in
theorem sf_12_32_c (X : qm_X) (h : qm_H) (hp : True) (Q : qm_Q) (hq : ∀ r : Int32, (True) → Q (some (.int r)) h) : ∀ n : Nat, (∀ (l1 : Int32) (l2 : Int32), (0 ≤ l2.toInt ∧ l2.toInt ≤ 16) → (16 - l2.toInt).toNat < n → qm_PA X 12 4 [(0, .ref 32), (1, .int l1), (2, .int l2)] [] h Q) := by
  intro n
  induction n with
  | zero => exact fun _ _ _ h0 => absurd h0 (Nat.not_lt_zero _)
  | succ n ih =>
    intro l1 l2 hi hr
    have ti_l2 := ti_rng l2
    refine qm_seg_ok (C := qc_12) (rt := some .int) rfl rfl (cuts := [(4, [0, 1, 2])]) 400 _ _ _ _ ?_
    show (16 ≤ l2.toInt → (Q (some (.int l1)) h)) ∧ (l2.toInt < 16 → ((0 ≤ l2.toInt ∧ l2.toInt < 16) ∧ (qm_PA X 12 4 [(0, .ref 32), (1, .int (l1 + (h 33 l2.toInt.toNat))), (2, .int (l2 + 1))] [] h Q)))
    refine ⟨fun c1 => ?_, fun c2 => ?_⟩
    · exact hq l1 trivial
    · refine ⟨(by omega), ?_⟩
      exact ih (l1 + (h 33 l2.toInt.toNat)) (l2 + 1) (by have := ti_addK l2 (1 : Int32) 1 rfl; omega) (by have := ti_addK l2 (1 : Int32) 1 rfl; omega)
set_option maxRecDepth 100000 in
set_option maxHeartbeats 4000000 in
theorem sf_12_32 (X : qm_X) (h : qm_H) (hp : True) (Q : qm_Q) (hq : ∀ r : Int32, (True) → Q (some (.int r)) h) : qm_PW X 12 [.ref 32] h Q := by
  refine qm_seg_ok (C := qc_12) (rt := some .int) rfl rfl (cuts := [(4, [0, 1, 2])]) 400 _ _ _ _ ?_
  show qm_PA X 12 4 [(0, .ref 32), (1, .int 0), (2, .int 0)] [] h Q
  exact (sf_12_32_c X h hp Q hq _) (0 : Int32) (0 : Int32) (by have : (0 : Int32).toInt = 0 := rfl; omega) (Nat.lt_succ_self _)
-- ThreadBank$Clearing.leastIn(I)I
set_option maxRecDepth 100000 in
set_option maxHeartbeats 4000000 in
theorem sf_19_32_c (X : qm_X) (h : qm_H) (a : Int32) (hp : True) (Q : qm_Q) (hq : ∀ r : Int32, (True) → Q (some (.int r)) h) : ∀ n : Nat, (∀ (l2 : Int32) (l3 : Int32), (0 ≤ l3.toInt ∧ l3.toInt ≤ 4) → (4 - l3.toInt).toNat < n → qm_PA X 19 17 [(0, .ref 32), (1, .int a), (2, .int l2), (3, .int l3)] [] h Q) := by
  intro n
  induction n with
  | zero => exact fun _ _ _ h0 => absurd h0 (Nat.not_lt_zero _)
  | succ n ih =>
    intro l2 l3 hi hr
    have ti_l3 := ti_rng l3
    refine qm_seg_ok (C := qc_19) (rt := some .int) rfl rfl (cuts := [(17, [0, 1, 2, 3])]) 400 _ _ _ _ ?_
    show qm_PW X 20 [.int a] h _
    refine sf_20 X h a trivial _ (fun r1 p2 => ?_)
    show (r1.toInt ≤ l3.toInt → (Q (some (.int l2)) h)) ∧ (l3.toInt < r1.toInt → (qm_PW X 21 [.int a, .int l3] h _))
    refine ⟨fun c3 => ?_, fun c4 => ?_⟩
    · exact hq l2 trivial
    · refine sf_21 X h a l3 trivial _ (fun r5 p6 => ?_)
      show qm_PW X 21 [.int a, .int (l3 + 1)] h _
      refine sf_21 X h a (l3 + 1) trivial _ (fun r7 p8 => ?_)
      show qm_PW X 11 [.ref 32, .int r5, .int r7] h _
      refine sf_11_32 X h r5 r7 trivial _ (fun r9 p10 => ?_)
      show qm_PW X 2 [.int l2, .int r9] h _
      refine sf_2 X h l2 r9 trivial _ (fun r11 p12 => ?_)
      show qm_PA X 19 17 [(0, .ref 32), (1, .int a), (2, .int r11), (3, .int (l3 + 1))] [] h Q
      exact ih r11 (l3 + 1) (by have := ti_addK l3 (1 : Int32) 1 rfl; omega) (by have := ti_addK l3 (1 : Int32) 1 rfl; omega)
set_option maxRecDepth 100000 in
set_option maxHeartbeats 4000000 in
theorem sf_19_32 (X : qm_X) (h : qm_H) (a : Int32) (hp : True) (Q : qm_Q) (hq : ∀ r : Int32, (True) → Q (some (.int r)) h) : qm_PW X 19 [.ref 32, .int a] h Q := by
  refine qm_seg_ok (C := qc_19) (rt := some .int) rfl rfl (cuts := [(17, [0, 1, 2, 3])]) 400 _ _ _ _ ?_
  show qm_PW X 21 [.int a, .int 0] h _
  refine sf_21 X h a (0 : Int32) trivial _ (fun r1 p2 => ?_)
  show qm_PW X 21 [.int a, .int 1] h _
  refine sf_21 X h a (1 : Int32) trivial _ (fun r3 p4 => ?_)
  show qm_PW X 11 [.ref 32, .int r1, .int r3] h _
  refine sf_11_32 X h r1 r3 trivial _ (fun r5 p6 => ?_)
  show qm_PA X 19 17 [(0, .ref 32), (1, .int a), (2, .int r5), (3, .int 1)] [] h Q
  exact (sf_19_32_c X h a hp Q hq _) r5 (1 : Int32) (by have : (1 : Int32).toInt = 1 := rfl; omega) (Nat.lt_succ_self _)
-- ThreadBank$Clearing.findBest()Z
set_option maxRecDepth 100000 in
set_option maxHeartbeats 4000000 in
theorem sf_13_32_c (X : qm_X) (h : qm_H) (hp : True) (Q : qm_Q) (hq : ∀ r : Int32, ∀ h' : qm_H, ((∀ k, (k < 32 ∨ 32 < k) → h' k = h k) ∧ (r = 0 ∨ r = 1)) → Q (some (.int r)) h') : ∀ n : Nat, (∀ (l1 : Int32) (g : qm_H), ((0 ≤ l1.toInt ∧ l1.toInt ≤ 104) ∧ ∀ k, (k < 32 ∨ 32 < k) → g k = h k) → (104 - l1.toInt).toNat < n → qm_PA X 13 12 [(0, .ref 32), (1, .int l1)] [] g Q) := by
  intro n
  induction n with
  | zero => exact fun _ _ _ h0 => absurd h0 (Nat.not_lt_zero _)
  | succ n ih =>
    intro l1 g hi hr
    obtain ⟨hi0, hgf⟩ := hi
    refine qm_seg_ok (C := qc_13) (rt := some .boolean) rfl rfl (cuts := [(12, [0, 1])]) 400 _ _ _ _ ?_
    show (100 ≤ l1.toInt → (((g 32 2).toInt ≤ 0 → (((0 : Int32) = 0 ∨ (0 : Int32) = 1) ∧ Q (some (.int 0)) g)) ∧ (0 < (g 32 2).toInt → (((1 : Int32) = 0 ∨ (1 : Int32) = 1) ∧ Q (some (.int 1)) g)))) ∧ (l1.toInt < 100 → (qm_PW X 19 [.ref 32, .int l1] g _))
    refine ⟨fun c1 => ?_, fun c2 => ?_⟩
    · refine ⟨fun c3 => ?_, fun c4 => ?_⟩
      · exact ⟨Or.inl rfl, hq 0 g ⟨(fun k hk => hgf k hk), (Or.inl rfl)⟩⟩
      · exact ⟨Or.inr rfl, hq 1 g ⟨(fun k hk => hgf k hk), (Or.inr rfl)⟩⟩
    · refine sf_19_32 X g l1 trivial _ (fun r5 p6 => ?_)
      show qm_PW X 20 [.int l1] g _
      refine sf_20 X g l1 trivial _ (fun r7 p8 => ?_)
      show ((r5 * r7).toInt ≤ (g 32 2).toInt → (qm_PA X 13 12 [(0, .ref 32), (1, .int (l1 + 5))] [] g Q)) ∧ ((g 32 2).toInt < (r5 * r7).toInt → (qm_PA X 13 12 [(0, .ref 32), (1, .int (l1 + 5))] [] (qm_row (qm_row g 32 (upd (g 32) 2 (r5 * r7))) 32 (upd (upd (g 32) 2 (r5 * r7)) 1 l1)) Q))
      refine ⟨fun c9 => ?_, fun c10 => ?_⟩
      · exact ih (l1 + 5) g ⟨(by have := ti_addK l1 (5 : Int32) 5 rfl; show 0 ≤ (l1 + 5).toInt ∧ (l1 + 5).toInt ≤ 104; omega), (fun k hk => hgf k hk)⟩ (by have := ti_addK l1 (5 : Int32) 5 rfl; show (104 - (l1 + 5).toInt).toNat < n; omega)
      · exact ih (l1 + 5) (qm_row (qm_row g 32 (upd (g 32) 2 (r5 * r7))) 32 (upd (upd (g 32) 2 (r5 * r7)) 1 l1)) ⟨(by have := ti_addK l1 (5 : Int32) 5 rfl; show 0 ≤ (l1 + 5).toInt ∧ (l1 + 5).toInt ≤ 104; omega), (fun k hk => by simp only [qm_row]; rw [if_neg (by omega)]; rw [if_neg (by omega)]; exact hgf k hk)⟩ (by have := ti_addK l1 (5 : Int32) 5 rfl; show (104 - (l1 + 5).toInt).toNat < n; omega)
set_option maxRecDepth 100000 in
set_option maxHeartbeats 4000000 in
theorem sf_13_32 (X : qm_X) (h : qm_H) (hp : True) (Q : qm_Q) (hq : ∀ r : Int32, ∀ h' : qm_H, ((∀ k, (k < 32 ∨ 32 < k) → h' k = h k) ∧ (r = 0 ∨ r = 1)) → Q (some (.int r)) h') : qm_PW X 13 [.ref 32] h Q := by
  refine qm_seg_ok (C := qc_13) (rt := some .boolean) rfl rfl (cuts := [(12, [0, 1])]) 400 _ _ _ _ ?_
  show qm_PA X 13 12 [(0, .ref 32), (1, .int 0)] [] (qm_row (qm_row h 32 (upd (h 32) 1 0)) 32 (upd (upd (h 32) 1 0) 2 0)) Q
  exact (sf_13_32_c X h hp Q hq _) (0 : Int32) (qm_row (qm_row h 32 (upd (h 32) 1 0)) 32 (upd (upd (h 32) 1 0) 2 0)) ⟨(by have : (0 : Int32).toInt = 0 := rfl; show 0 ≤ (0 : Int32).toInt ∧ (0 : Int32).toInt ≤ 104; omega), (fun k hk => by simp only [qm_row]; rw [if_neg (by omega)]; rw [if_neg (by omega)])⟩ (Nat.lt_succ_self _)
-- ThreadBank$Clearing.gainOfBest()I
set_option maxRecDepth 100000 in
set_option maxHeartbeats 4000000 in
theorem sf_14_32 (X : qm_X) (h : qm_H) (hp : True) (Q : qm_Q) (hq : ∀ r : Int32, (True) → Q (some (.int r)) h) : qm_PW X 14 [.ref 32] h Q := by
  refine qm_seg_ok (C := qc_14) (rt := some .int) rfl rfl (cuts := []) 400 _ _ _ _ ?_
  show Q (some (.int (h 32 2))) h
  exact hq (h 32 2) trivial
-- ThreadBank$Clearing.sizeOfBest()I
set_option maxRecDepth 100000 in
set_option maxHeartbeats 4000000 in
theorem sf_15_32 (X : qm_X) (h : qm_H) (hp : True) (Q : qm_Q) (hq : ∀ r : Int32, (True) → Q (some (.int r)) h) : qm_PW X 15 [.ref 32] h Q := by
  refine qm_seg_ok (C := qc_15) (rt := some .int) rfl rfl (cuts := []) 400 _ _ _ _ ?_
  show qm_PW X 20 [.int (h 32 1)] h _
  refine sf_20 X h (h 32 1) trivial _ (fun r1 p2 => ?_)
  show Q (some (.int r1)) h
  exact hq r1 trivial
-- ThreadBank$Clearing.clerkOfBest(I)I
set_option maxRecDepth 100000 in
set_option maxHeartbeats 4000000 in
theorem sf_16_32 (X : qm_X) (h : qm_H) (a : Int32) (hp : True) (Q : qm_Q) (hq : ∀ r : Int32, (True) → Q (some (.int r)) h) : qm_PW X 16 [.ref 32, .int a] h Q := by
  refine qm_seg_ok (C := qc_16) (rt := some .int) rfl rfl (cuts := []) 400 _ _ _ _ ?_
  show (a.toInt < 0 → (Q (some (.int (-4 : Int32))) h)) ∧ (0 ≤ a.toInt → (qm_PW X 20 [.int (h 32 1)] h _))
  refine ⟨fun c1 => ?_, fun c2 => ?_⟩
  · exact hq (-4 : Int32) trivial
  · refine sf_20 X h (h 32 1) trivial _ (fun r3 p4 => ?_)
    show (r3.toInt ≤ a.toInt → (Q (some (.int (-4 : Int32))) h)) ∧ (a.toInt < r3.toInt → (qm_PW X 21 [.int (h 32 1), .int a] h _))
    refine ⟨fun c5 => ?_, fun c6 => ?_⟩
    · exact hq (-4 : Int32) trivial
    · refine sf_21 X h (h 32 1) a trivial _ (fun r7 p8 => ?_)
      show Q (some (.int r7)) h
      exact hq r7 trivial
-- ThreadBank$Clearing.takeBest()V
set_option maxRecDepth 100000 in
set_option maxHeartbeats 4000000 in
theorem sf_18_32_c (X : qm_X) (h : qm_H) (hp : True) (Q : qm_Q) (hq : ∀ h' : qm_H, ((∀ k, (k < 33 ∨ 33 < k) → h' k = h k)) → Q none h') : ∀ n : Nat, (∀ (l1 : Int32) (l2 : Int32) (g : qm_H), ((0 ≤ l2.toInt ∧ l2.toInt ≤ 4) ∧ ∀ k, (k < 33 ∨ 33 < k) → g k = h k) → (4 - l2.toInt).toNat < n → qm_PA X 18 11 [(0, .ref 32), (1, .int l1), (2, .int l2)] [] g Q) := by
  intro n
  induction n with
  | zero => exact fun _ _ _ _ h0 => absurd h0 (Nat.not_lt_zero _)
  | succ n ih =>
    intro l1 l2 g hi hr
    obtain ⟨hi0, hgf⟩ := hi
    refine qm_seg_ok (C := qc_18) (rt := none) rfl rfl (cuts := [(11, [0, 1, 2])]) 400 _ _ _ _ ?_
    show qm_PW X 20 [.int (g 32 1)] g _
    refine sf_20 X g (g 32 1) trivial _ (fun r1 p2 => ?_)
    show (r1.toInt ≤ l2.toInt → (Q none g)) ∧ (l2.toInt < r1.toInt → (qm_PW X 21 [.int (g 32 1), .int l2] g _))
    refine ⟨fun c3 => ?_, fun c4 => ?_⟩
    · exact hq g (fun k hk => hgf k hk)
    · refine sf_21 X g (g 32 1) l2 trivial _ (fun r5 p6 => ?_)
      show qm_PW X 21 [.int (g 32 1), .int (l2 + 1)] g _
      refine sf_21 X g (g 32 1) (l2 + 1) trivial _ (fun r7 p8 => ?_)
      show (((4 * r5) + r7).toInt < 0 → (qm_PA X 18 11 [(0, .ref 32), (1, .int l1), (2, .int (l2 + 1))] [] g Q)) ∧ (0 ≤ ((4 * r5) + r7).toInt → ((16 ≤ ((4 * r5) + r7).toInt → (qm_PA X 18 11 [(0, .ref 32), (1, .int l1), (2, .int (l2 + 1))] [] g Q)) ∧ (((4 * r5) + r7).toInt < 16 → ((0 ≤ ((4 * r5) + r7).toInt ∧ ((4 * r5) + r7).toInt < 16) ∧ ((0 ≤ ((4 * r5) + r7).toInt ∧ ((4 * r5) + r7).toInt < 16) ∧ (qm_PA X 18 11 [(0, .ref 32), (1, .int l1), (2, .int (l2 + 1))] [] (qm_row g 33 (upd (g 33) ((4 * r5) + r7).toInt.toNat ((g 33 ((4 * r5) + r7).toInt.toNat) - l1))) Q))))))
      refine ⟨fun c9 => ?_, fun c10 => ?_⟩
      · exact ih l1 (l2 + 1) g ⟨(by have := ti_addK l2 (1 : Int32) 1 rfl; have := ti_mulL (4 : Int32) 4 rfl r5; have := ti_add (4 * r5) r7; show 0 ≤ (l2 + 1).toInt ∧ (l2 + 1).toInt ≤ 4; omega), (fun k hk => hgf k hk)⟩ (by have := ti_addK l2 (1 : Int32) 1 rfl; have := ti_mulL (4 : Int32) 4 rfl r5; have := ti_add (4 * r5) r7; show (4 - (l2 + 1).toInt).toNat < n; omega)
      · refine ⟨fun c11 => ?_, fun c12 => ?_⟩
        · exact ih l1 (l2 + 1) g ⟨(by have := ti_addK l2 (1 : Int32) 1 rfl; have := ti_mulL (4 : Int32) 4 rfl r5; have := ti_add (4 * r5) r7; show 0 ≤ (l2 + 1).toInt ∧ (l2 + 1).toInt ≤ 4; omega), (fun k hk => hgf k hk)⟩ (by have := ti_addK l2 (1 : Int32) 1 rfl; have := ti_mulL (4 : Int32) 4 rfl r5; have := ti_add (4 * r5) r7; show (4 - (l2 + 1).toInt).toNat < n; omega)
        · refine ⟨(by have := ti_mulL (4 : Int32) 4 rfl r5; have := ti_add (4 * r5) r7; omega), ?_⟩
          refine ⟨(by have := ti_mulL (4 : Int32) 4 rfl r5; have := ti_add (4 * r5) r7; omega), ?_⟩
          exact ih l1 (l2 + 1) (qm_row g 33 (upd (g 33) ((4 * r5) + r7).toInt.toNat ((g 33 ((4 * r5) + r7).toInt.toNat) - l1))) ⟨(by have := ti_addK l2 (1 : Int32) 1 rfl; have := ti_mulL (4 : Int32) 4 rfl r5; have := ti_add (4 * r5) r7; show 0 ≤ (l2 + 1).toInt ∧ (l2 + 1).toInt ≤ 4; omega), (fun k hk => by simp only [qm_row]; rw [if_neg (by omega)]; exact hgf k hk)⟩ (by have := ti_addK l2 (1 : Int32) 1 rfl; have := ti_mulL (4 : Int32) 4 rfl r5; have := ti_add (4 * r5) r7; show (4 - (l2 + 1).toInt).toNat < n; omega)
set_option maxRecDepth 100000 in
set_option maxHeartbeats 4000000 in
theorem sf_18_32 (X : qm_X) (h : qm_H) (hp : True) (Q : qm_Q) (hq : ∀ h' : qm_H, ((∀ k, (k < 33 ∨ 33 < k) → h' k = h k)) → Q none h') : qm_PW X 18 [.ref 32] h Q := by
  refine qm_seg_ok (C := qc_18) (rt := none) rfl rfl (cuts := [(11, [0, 1, 2])]) 400 _ _ _ _ ?_
  show qm_PW X 19 [.ref 32, .int (h 32 1)] h _
  refine sf_19_32 X h (h 32 1) trivial _ (fun r1 p2 => ?_)
  show qm_PA X 18 11 [(0, .ref 32), (1, .int r1), (2, .int 0)] [] h Q
  exact (sf_18_32_c X h hp Q hq _) r1 (0 : Int32) h ⟨(by have : (0 : Int32).toInt = 0 := rfl; show 0 ≤ (0 : Int32).toInt ∧ (0 : Int32).toInt ≤ 4; omega), (fun k hk => rfl)⟩ (Nat.lt_succ_self _)
-- ThreadBank$Clearing.takeAll()I
set_option maxRecDepth 100000 in
set_option maxHeartbeats 4000000 in
theorem sf_17_32_c (X : qm_X) (h : qm_H) (hp : True) (Q : qm_Q) (hq : ∀ r : Int32, ∀ h' : qm_H, ((∀ k, (k < 32 ∨ 33 < k) → h' k = h k)) → Q (some (.int r)) h') : ∀ n : Nat, (∀ (l1 : Int32) (g : qm_H), ((0 ≤ l1.toInt ∧ l1.toInt ≤ 12) ∧ ∀ k, (k < 32 ∨ 33 < k) → g k = h k) → (12 - l1.toInt).toNat < n → qm_PA X 17 2 [(0, .ref 32), (1, .int l1)] [] g Q) := by
  intro n
  induction n with
  | zero => exact fun _ _ _ h0 => absurd h0 (Nat.not_lt_zero _)
  | succ n ih =>
    intro l1 g hi hr
    obtain ⟨hi0, hgf⟩ := hi
    refine qm_seg_ok (C := qc_17) (rt := some .int) rfl rfl (cuts := [(2, [0, 1])]) 400 _ _ _ _ ?_
    show (12 ≤ l1.toInt → (Q (some (.int l1)) g)) ∧ (l1.toInt < 12 → (qm_PW X 13 [.ref 32] g _))
    refine ⟨fun c1 => ?_, fun c2 => ?_⟩
    · exact hq l1 g (fun k hk => hgf k hk)
    · refine sf_13_32 X g  trivial _ (fun r3 g4 p5 => ?_)
      have f6 : ∀ k, (k < 32 ∨ 33 < k) → g4 k = h k := fun k hk => (p5.1 k (by omega)).trans (hgf k hk)
      show (r3 = 0 → (Q (some (.int l1)) g4)) ∧ (¬ r3 = 0 → (qm_PW X 18 [.ref 32] g4 _))
      refine ⟨fun c7 => ?_, fun c8 => ?_⟩
      · exact hq l1 g4 (fun k hk => f6 k hk)
      · refine sf_18_32 X g4  trivial _ (fun g9 p10 => ?_)
        have f11 : ∀ k, (k < 32 ∨ 33 < k) → g9 k = h k := fun k hk => (p10 k (by omega)).trans (f6 k hk)
        show qm_PA X 17 2 [(0, .ref 32), (1, .int (l1 + 1))] [] g9 Q
        exact ih (l1 + 1) g9 ⟨(by have := ti_addK l1 (1 : Int32) 1 rfl; show 0 ≤ (l1 + 1).toInt ∧ (l1 + 1).toInt ≤ 12; omega), (fun k hk => f11 k hk)⟩ (by have := ti_addK l1 (1 : Int32) 1 rfl; show (12 - (l1 + 1).toInt).toNat < n; omega)
set_option maxRecDepth 100000 in
set_option maxHeartbeats 4000000 in
theorem sf_17_32 (X : qm_X) (h : qm_H) (hp : True) (Q : qm_Q) (hq : ∀ r : Int32, ∀ h' : qm_H, ((∀ k, (k < 32 ∨ 33 < k) → h' k = h k)) → Q (some (.int r)) h') : qm_PW X 17 [.ref 32] h Q := by
  refine qm_seg_ok (C := qc_17) (rt := some .int) rfl rfl (cuts := [(2, [0, 1])]) 400 _ _ _ _ ?_
  show qm_PA X 17 2 [(0, .ref 32), (1, .int 0)] [] h Q
  exact (sf_17_32_c X h hp Q hq _) (0 : Int32) h ⟨(by have : (0 : Int32).toInt = 0 := rfl; show 0 ≤ (0 : Int32).toInt ∧ (0 : Int32).toInt ≤ 12; omega), (fun k hk => rfl)⟩ (Nat.lt_succ_self _)
end
