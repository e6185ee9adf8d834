-- ===== PART A: goes FIRST, ahead of the names: the tables' words, and 'selects' of the private methods out of them =====
/-- a private method of a class that the tables say can be made, by its rows of tables_1 -/
def lw_okq (q : MethodName × Nat) : Prop := (q.1.cls ≠ "java/lang/invoke/MethodHandle" ∧ q.1.cls ≠ "java/lang/invoke/VarHandle") ∧ Cond.instantiable q.1.cls q.2 ∈ tables_1 ∧ Cond.privateMethod q.1 ∈ tables_1 ∧ Cond.instanceMethod q.1 ∈ tables_1
theorem lw_p0 : lw_okq (⟨"SungAsleep$Tape", "skipBlanks", "()V"⟩, 4) := ⟨⟨by decide +kernel, by decide +kernel⟩, List.mem_of_getElem? (i := 115) (by decide +kernel), List.mem_of_getElem? (i := 206) (by decide +kernel), List.mem_of_getElem? (i := 207) (by decide +kernel)⟩
theorem lw_p1 : lw_okq (⟨"SungAsleep$Tape", "byteAt", "(I)I"⟩, 4) := ⟨⟨by decide +kernel, by decide +kernel⟩, List.mem_of_getElem? (i := 115) (by decide +kernel), List.mem_of_getElem? (i := 210) (by decide +kernel), List.mem_of_getElem? (i := 211) (by decide +kernel)⟩
theorem lw_p2 : lw_okq (⟨"SungAsleep$Tape", "wordHere", "()I"⟩, 4) := ⟨⟨by decide +kernel, by decide +kernel⟩, List.mem_of_getElem? (i := 115) (by decide +kernel), List.mem_of_getElem? (i := 214) (by decide +kernel), List.mem_of_getElem? (i := 215) (by decide +kernel)⟩
theorem lw_p3 : lw_okq (⟨"SungAsleep$Tape", "isHere", "(Ljava/lang/String;)Z"⟩, 4) := ⟨⟨by decide +kernel, by decide +kernel⟩, List.mem_of_getElem? (i := 115) (by decide +kernel), List.mem_of_getElem? (i := 231) (by decide +kernel), List.mem_of_getElem? (i := 232) (by decide +kernel)⟩
theorem lw_p4 : lw_okq (⟨"SungAsleep$Tape", "readsOwes", "(LSungAsleep$Valley;)Z"⟩, 4) := ⟨⟨by decide +kernel, by decide +kernel⟩, List.mem_of_getElem? (i := 115) (by decide +kernel), List.mem_of_getElem? (i := 283) (by decide +kernel), List.mem_of_getElem? (i := 284) (by decide +kernel)⟩
theorem lw_p5 : lw_okq (⟨"SungAsleep$Tape", "pass", "()V"⟩, 4) := ⟨⟨by decide +kernel, by decide +kernel⟩, List.mem_of_getElem? (i := 115) (by decide +kernel), List.mem_of_getElem? (i := 287) (by decide +kernel), List.mem_of_getElem? (i := 288) (by decide +kernel)⟩
theorem lw_p6 : lw_okq (⟨"SungAsleep$Tape", "numberHere", "(II)I"⟩, 4) := ⟨⟨by decide +kernel, by decide +kernel⟩, List.mem_of_getElem? (i := 115) (by decide +kernel), List.mem_of_getElem? (i := 291) (by decide +kernel), List.mem_of_getElem? (i := 292) (by decide +kernel)⟩
theorem lw_p7 : lw_okq (⟨"SungAsleep$Tape", "readsSemicolon", "()Z"⟩, 4) := ⟨⟨by decide +kernel, by decide +kernel⟩, List.mem_of_getElem? (i := 115) (by decide +kernel), List.mem_of_getElem? (i := 303) (by decide +kernel), List.mem_of_getElem? (i := 304) (by decide +kernel)⟩
theorem lw_p8 : lw_okq (⟨"SungAsleep$Tape", "readsAsleep", "(LSungAsleep$Valley;)Z"⟩, 4) := ⟨⟨by decide +kernel, by decide +kernel⟩, List.mem_of_getElem? (i := 115) (by decide +kernel), List.mem_of_getElem? (i := 307) (by decide +kernel), List.mem_of_getElem? (i := 308) (by decide +kernel)⟩
theorem lw_p9 : lw_okq (⟨"SungAsleep$Tape", "readsPerson", "(ILSungAsleep$Valley;)Z"⟩, 4) := ⟨⟨by decide +kernel, by decide +kernel⟩, List.mem_of_getElem? (i := 115) (by decide +kernel), List.mem_of_getElem? (i := 325) (by decide +kernel), List.mem_of_getElem? (i := 326) (by decide +kernel)⟩
theorem lw_p10 : lw_okq (⟨"SungAsleep$Tape", "readsVoice", "(LSungAsleep$Sleeper;)Z"⟩, 4) := ⟨⟨by decide +kernel, by decide +kernel⟩, List.mem_of_getElem? (i := 115) (by decide +kernel), List.mem_of_getElem? (i := 459) (by decide +kernel), List.mem_of_getElem? (i := 460) (by decide +kernel)⟩
theorem lw_p11 : lw_okq (⟨"SungAsleep$Tape", "readsPurse", "(LSungAsleep$Sleeper;)Z"⟩, 4) := ⟨⟨by decide +kernel, by decide +kernel⟩, List.mem_of_getElem? (i := 115) (by decide +kernel), List.mem_of_getElem? (i := 463) (by decide +kernel), List.mem_of_getElem? (i := 464) (by decide +kernel)⟩
theorem lw_p12 : lw_okq (⟨"SungAsleep$Valley", "settleWith", "(LSungAsleep$Sleeper;LSungAsleep$Sleeper;)V"⟩, 5) := ⟨⟨by decide +kernel, by decide +kernel⟩, List.mem_of_getElem? (i := 30) (by decide +kernel), List.mem_of_getElem? (i := 578) (by decide +kernel), List.mem_of_getElem? (i := 579) (by decide +kernel)⟩
theorem lw_p13 : lw_okq (⟨"SungAsleep$Valley", "lessen", "(III)V"⟩, 5) := ⟨⟨by decide +kernel, by decide +kernel⟩, List.mem_of_getElem? (i := 30) (by decide +kernel), List.mem_of_getElem? (i := 629) (by decide +kernel), List.mem_of_getElem? (i := 630) (by decide +kernel)⟩
theorem lw_p14 : lw_okq (⟨"SungAsleep", "isPair", "(II)Z"⟩, 10) := ⟨⟨by decide +kernel, by decide +kernel⟩, List.mem_of_getElem? (i := 22) (by decide +kernel), List.mem_of_getElem? (i := 637) (by decide +kernel), List.mem_of_getElem? (i := 638) (by decide +kernel)⟩
theorem lw_p15 : lw_okq (⟨"SungAsleep", "fewestMinutes", "(III)I"⟩, 10) := ⟨⟨by decide +kernel, by decide +kernel⟩, List.mem_of_getElem? (i := 22) (by decide +kernel), List.mem_of_getElem? (i := 663) (by decide +kernel), List.mem_of_getElem? (i := 664) (by decide +kernel)⟩
def lw_privs_1 : List (MethodName × Nat) := [(⟨"SungAsleep$Tape", "skipBlanks", "()V"⟩, 4), (⟨"SungAsleep$Tape", "byteAt", "(I)I"⟩, 4), (⟨"SungAsleep$Tape", "wordHere", "()I"⟩, 4), (⟨"SungAsleep$Tape", "isHere", "(Ljava/lang/String;)Z"⟩, 4), (⟨"SungAsleep$Tape", "readsOwes", "(LSungAsleep$Valley;)Z"⟩, 4), (⟨"SungAsleep$Tape", "pass", "()V"⟩, 4), (⟨"SungAsleep$Tape", "numberHere", "(II)I"⟩, 4), (⟨"SungAsleep$Tape", "readsSemicolon", "()Z"⟩, 4), (⟨"SungAsleep$Tape", "readsAsleep", "(LSungAsleep$Valley;)Z"⟩, 4), (⟨"SungAsleep$Tape", "readsPerson", "(ILSungAsleep$Valley;)Z"⟩, 4), (⟨"SungAsleep$Tape", "readsVoice", "(LSungAsleep$Sleeper;)Z"⟩, 4), (⟨"SungAsleep$Tape", "readsPurse", "(LSungAsleep$Sleeper;)Z"⟩, 4), (⟨"SungAsleep$Valley", "settleWith", "(LSungAsleep$Sleeper;LSungAsleep$Sleeper;)V"⟩, 5), (⟨"SungAsleep$Valley", "lessen", "(III)V"⟩, 5), (⟨"SungAsleep", "isPair", "(II)Z"⟩, 10), (⟨"SungAsleep", "fewestMinutes", "(III)I"⟩, 10)]
theorem lw_r1 : ∀ q ∈ lw_privs_1, lw_okq q := List.forall_mem_cons.mpr ⟨lw_p0, List.forall_mem_cons.mpr ⟨lw_p1, List.forall_mem_cons.mpr ⟨lw_p2, List.forall_mem_cons.mpr ⟨lw_p3, List.forall_mem_cons.mpr ⟨lw_p4, List.forall_mem_cons.mpr ⟨lw_p5, List.forall_mem_cons.mpr ⟨lw_p6, List.forall_mem_cons.mpr ⟨lw_p7, List.forall_mem_cons.mpr ⟨lw_p8, List.forall_mem_cons.mpr ⟨lw_p9, List.forall_mem_cons.mpr ⟨lw_p10, List.forall_mem_cons.mpr ⟨lw_p11, List.forall_mem_cons.mpr ⟨lw_p12, List.forall_mem_cons.mpr ⟨lw_p13, List.forall_mem_cons.mpr ⟨lw_p14, List.forall_mem_cons.mpr ⟨lw_p15, fun _ h => absurd h List.not_mem_nil⟩⟩⟩⟩⟩⟩⟩⟩⟩⟩⟩⟩⟩⟩⟩⟩
theorem lw_p16 : lw_okq (⟨"SungAsleep$Reckoner", "note", "(II)Z"⟩, 15) := ⟨⟨by decide +kernel, by decide +kernel⟩, List.mem_of_getElem? (i := 60) (by decide +kernel), List.mem_of_getElem? (i := 676) (by decide +kernel), List.mem_of_getElem? (i := 677) (by decide +kernel)⟩
theorem lw_p17 : lw_okq (⟨"SungAsleep$Reckoner", "reckon", "(I)V"⟩, 15) := ⟨⟨by decide +kernel, by decide +kernel⟩, List.mem_of_getElem? (i := 60) (by decide +kernel), List.mem_of_getElem? (i := 682) (by decide +kernel), List.mem_of_getElem? (i := 683) (by decide +kernel)⟩
theorem lw_p18 : lw_okq (⟨"SungAsleep$Reckoner", "listSongs", "()V"⟩, 15) := ⟨⟨by decide +kernel, by decide +kernel⟩, List.mem_of_getElem? (i := 60) (by decide +kernel), List.mem_of_getElem? (i := 686) (by decide +kernel), List.mem_of_getElem? (i := 687) (by decide +kernel)⟩
theorem lw_p19 : lw_okq (⟨"SungAsleep$Reckoner", "isSungTo", "(I)Z"⟩, 15) := ⟨⟨by decide +kernel, by decide +kernel⟩, List.mem_of_getElem? (i := 60) (by decide +kernel), List.mem_of_getElem? (i := 692) (by decide +kernel), List.mem_of_getElem? (i := 693) (by decide +kernel)⟩
theorem lw_p20 : lw_okq (⟨"SungAsleep$Reckoner", "ableFor", "(I)I"⟩, 15) := ⟨⟨by decide +kernel, by decide +kernel⟩, List.mem_of_getElem? (i := 60) (by decide +kernel), List.mem_of_getElem? (i := 697) (by decide +kernel), List.mem_of_getElem? (i := 698) (by decide +kernel)⟩
theorem lw_p21 : lw_okq (⟨"SungAsleep$Reckoner", "reckonSet", "(II)V"⟩, 15) := ⟨⟨by decide +kernel, by decide +kernel⟩, List.mem_of_getElem? (i := 60) (by decide +kernel), List.mem_of_getElem? (i := 701) (by decide +kernel), List.mem_of_getElem? (i := 702) (by decide +kernel)⟩
theorem lw_p22 : lw_okq (⟨"SungAsleep$Reckoner", "weigh", "(II)V"⟩, 15) := ⟨⟨by decide +kernel, by decide +kernel⟩, List.mem_of_getElem? (i := 60) (by decide +kernel), List.mem_of_getElem? (i := 707) (by decide +kernel), List.mem_of_getElem? (i := 708) (by decide +kernel)⟩
theorem lw_p23 : lw_okq (⟨"SungAsleep$Reckoner", "laySong", "(II)V"⟩, 15) := ⟨⟨by decide +kernel, by decide +kernel⟩, List.mem_of_getElem? (i := 60) (by decide +kernel), List.mem_of_getElem? (i := 725) (by decide +kernel), List.mem_of_getElem? (i := 726) (by decide +kernel)⟩
theorem lw_p24 : lw_okq (⟨"SungAsleep$Reckoner", "isBest", "(III)Z"⟩, 15) := ⟨⟨by decide +kernel, by decide +kernel⟩, List.mem_of_getElem? (i := 60) (by decide +kernel), List.mem_of_getElem? (i := 729) (by decide +kernel), List.mem_of_getElem? (i := 730) (by decide +kernel)⟩
theorem lw_p25 : lw_okq (⟨"SungAsleep", "isInRow", "(II)Z"⟩, 10) := ⟨⟨by decide +kernel, by decide +kernel⟩, List.mem_of_getElem? (i := 22) (by decide +kernel), List.mem_of_getElem? (i := 800) (by decide +kernel), List.mem_of_getElem? (i := 801) (by decide +kernel)⟩
theorem lw_p26 : lw_okq (⟨"SungAsleepModel", "advance", "()V"⟩, 53) := ⟨⟨by decide +kernel, by decide +kernel⟩, List.mem_of_getElem? (i := 1004) (by decide +kernel), List.mem_of_getElem? (i := 1182) (by decide +kernel), List.mem_of_getElem? (i := 1183) (by decide +kernel)⟩
theorem lw_p27 : lw_okq (⟨"SungAsleepModel", "byteAt", "(I)I"⟩, 53) := ⟨⟨by decide +kernel, by decide +kernel⟩, List.mem_of_getElem? (i := 1004) (by decide +kernel), List.mem_of_getElem? (i := 1186) (by decide +kernel), List.mem_of_getElem? (i := 1187) (by decide +kernel)⟩
theorem lw_p28 : lw_okq (⟨"SungAsleepModel", "wantClause", "()V"⟩, 53) := ⟨⟨by decide +kernel, by decide +kernel⟩, List.mem_of_getElem? (i := 1004) (by decide +kernel), List.mem_of_getElem? (i := 1199) (by decide +kernel), List.mem_of_getElem? (i := 1200) (by decide +kernel)⟩
theorem lw_p29 : lw_okq (⟨"SungAsleepModel", "kindHere", "()I"⟩, 53) := ⟨⟨by decide +kernel, by decide +kernel⟩, List.mem_of_getElem? (i := 1004) (by decide +kernel), List.mem_of_getElem? (i := 1203) (by decide +kernel), List.mem_of_getElem? (i := 1204) (by decide +kernel)⟩
theorem lw_p30 : lw_okq (⟨"SungAsleepModel", "isWord", "(J)Z"⟩, 53) := ⟨⟨by decide +kernel, by decide +kernel⟩, List.mem_of_getElem? (i := 1004) (by decide +kernel), List.mem_of_getElem? (i := 1208) (by decide +kernel), List.mem_of_getElem? (i := 1209) (by decide +kernel)⟩
theorem lw_p31 : lw_okq (⟨"SungAsleepModel", "wantPerson", "(I)V"⟩, 53) := ⟨⟨by decide +kernel, by decide +kernel⟩, List.mem_of_getElem? (i := 1004) (by decide +kernel), List.mem_of_getElem? (i := 1217) (by decide +kernel), List.mem_of_getElem? (i := 1218) (by decide +kernel)⟩
def lw_privs_2 : List (MethodName × Nat) := [(⟨"SungAsleep$Reckoner", "note", "(II)Z"⟩, 15), (⟨"SungAsleep$Reckoner", "reckon", "(I)V"⟩, 15), (⟨"SungAsleep$Reckoner", "listSongs", "()V"⟩, 15), (⟨"SungAsleep$Reckoner", "isSungTo", "(I)Z"⟩, 15), (⟨"SungAsleep$Reckoner", "ableFor", "(I)I"⟩, 15), (⟨"SungAsleep$Reckoner", "reckonSet", "(II)V"⟩, 15), (⟨"SungAsleep$Reckoner", "weigh", "(II)V"⟩, 15), (⟨"SungAsleep$Reckoner", "laySong", "(II)V"⟩, 15), (⟨"SungAsleep$Reckoner", "isBest", "(III)Z"⟩, 15), (⟨"SungAsleep", "isInRow", "(II)Z"⟩, 10), (⟨"SungAsleepModel", "advance", "()V"⟩, 53), (⟨"SungAsleepModel", "byteAt", "(I)I"⟩, 53), (⟨"SungAsleepModel", "wantClause", "()V"⟩, 53), (⟨"SungAsleepModel", "kindHere", "()I"⟩, 53), (⟨"SungAsleepModel", "isWord", "(J)Z"⟩, 53), (⟨"SungAsleepModel", "wantPerson", "(I)V"⟩, 53)]
theorem lw_r2 : ∀ q ∈ lw_privs_2, lw_okq q := List.forall_mem_cons.mpr ⟨lw_p16, List.forall_mem_cons.mpr ⟨lw_p17, List.forall_mem_cons.mpr ⟨lw_p18, List.forall_mem_cons.mpr ⟨lw_p19, List.forall_mem_cons.mpr ⟨lw_p20, List.forall_mem_cons.mpr ⟨lw_p21, List.forall_mem_cons.mpr ⟨lw_p22, List.forall_mem_cons.mpr ⟨lw_p23, List.forall_mem_cons.mpr ⟨lw_p24, List.forall_mem_cons.mpr ⟨lw_p25, List.forall_mem_cons.mpr ⟨lw_p26, List.forall_mem_cons.mpr ⟨lw_p27, List.forall_mem_cons.mpr ⟨lw_p28, List.forall_mem_cons.mpr ⟨lw_p29, List.forall_mem_cons.mpr ⟨lw_p30, List.forall_mem_cons.mpr ⟨lw_p31, fun _ h => absurd h List.not_mem_nil⟩⟩⟩⟩⟩⟩⟩⟩⟩⟩⟩⟩⟩⟩⟩⟩
theorem lw_p32 : lw_okq (⟨"SungAsleepModel", "wantNumber", "(II)I"⟩, 53) := ⟨⟨by decide +kernel, by decide +kernel⟩, List.mem_of_getElem? (i := 1004) (by decide +kernel), List.mem_of_getElem? (i := 1221) (by decide +kernel), List.mem_of_getElem? (i := 1222) (by decide +kernel)⟩
theorem lw_p33 : lw_okq (⟨"SungAsleepModel", "takes", "(J)Z"⟩, 53) := ⟨⟨by decide +kernel, by decide +kernel⟩, List.mem_of_getElem? (i := 1004) (by decide +kernel), List.mem_of_getElem? (i := 1226) (by decide +kernel), List.mem_of_getElem? (i := 1227) (by decide +kernel)⟩
theorem lw_p34 : lw_okq (⟨"SungAsleepModel", "wantEnd", "()V"⟩, 53) := ⟨⟨by decide +kernel, by decide +kernel⟩, List.mem_of_getElem? (i := 1004) (by decide +kernel), List.mem_of_getElem? (i := 1231) (by decide +kernel), List.mem_of_getElem? (i := 1232) (by decide +kernel)⟩
theorem lw_p35 : lw_okq (⟨"SungAsleepModel", "isMark", "(I)Z"⟩, 53) := ⟨⟨by decide +kernel, by decide +kernel⟩, List.mem_of_getElem? (i := 1004) (by decide +kernel), List.mem_of_getElem? (i := 1235) (by decide +kernel), List.mem_of_getElem? (i := 1236) (by decide +kernel)⟩
theorem lw_p36 : lw_okq (⟨"SungAsleepModel", "wantOwes", "()V"⟩, 53) := ⟨⟨by decide +kernel, by decide +kernel⟩, List.mem_of_getElem? (i := 1004) (by decide +kernel), List.mem_of_getElem? (i := 1240) (by decide +kernel), List.mem_of_getElem? (i := 1241) (by decide +kernel)⟩
theorem lw_p37 : lw_okq (⟨"SungAsleepModel", "wantAsleep", "()V"⟩, 53) := ⟨⟨by decide +kernel, by decide +kernel⟩, List.mem_of_getElem? (i := 1004) (by decide +kernel), List.mem_of_getElem? (i := 1245) (by decide +kernel), List.mem_of_getElem? (i := 1246) (by decide +kernel)⟩
theorem lw_p38 : lw_okq (⟨"SungAsleepModel", "isPerson", "(I)Z"⟩, 53) := ⟨⟨by decide +kernel, by decide +kernel⟩, List.mem_of_getElem? (i := 1004) (by decide +kernel), List.mem_of_getElem? (i := 1263) (by decide +kernel), List.mem_of_getElem? (i := 1264) (by decide +kernel)⟩
theorem lw_p39 : lw_okq (⟨"SungAsleepModel", "needs", "(I)I"⟩, 53) := ⟨⟨by decide +kernel, by decide +kernel⟩, List.mem_of_getElem? (i := 1004) (by decide +kernel), List.mem_of_getElem? (i := 1267) (by decide +kernel), List.mem_of_getElem? (i := 1268) (by decide +kernel)⟩
theorem lw_p40 : lw_okq (⟨"SungAsleepModel", "isAsk", "(II)Z"⟩, 53) := ⟨⟨by decide +kernel, by decide +kernel⟩, List.mem_of_getElem? (i := 1004) (by decide +kernel), List.mem_of_getElem? (i := 1296) (by decide +kernel), List.mem_of_getElem? (i := 1297) (by decide +kernel)⟩
theorem lw_p41 : lw_okq (⟨"SungAsleepModel", "canBe", "(III)Z"⟩, 53) := ⟨⟨by decide +kernel, by decide +kernel⟩, List.mem_of_getElem? (i := 1004) (by decide +kernel), List.mem_of_getElem? (i := 1300) (by decide +kernel), List.mem_of_getElem? (i := 1301) (by decide +kernel)⟩
theorem lw_p42 : lw_okq (⟨"SungAsleepModel", "lengthOf", "(I)I"⟩, 53) := ⟨⟨by decide +kernel, by decide +kernel⟩, List.mem_of_getElem? (i := 1004) (by decide +kernel), List.mem_of_getElem? (i := 1304) (by decide +kernel), List.mem_of_getElem? (i := 1305) (by decide +kernel)⟩
theorem lw_p43 : lw_okq (⟨"SungAsleepModel", "owesMore", "(III)V"⟩, 53) := ⟨⟨by decide +kernel, by decide +kernel⟩, List.mem_of_getElem? (i := 1004) (by decide +kernel), List.mem_of_getElem? (i := 1312) (by decide +kernel), List.mem_of_getElem? (i := 1313) (by decide +kernel)⟩
theorem lw_p44 : lw_okq (⟨"SungAsleepModel", "only", "(I)I"⟩, 53) := ⟨⟨by decide +kernel, by decide +kernel⟩, List.mem_of_getElem? (i := 1004) (by decide +kernel), List.mem_of_getElem? (i := 1328) (by decide +kernel), List.mem_of_getElem? (i := 1329) (by decide +kernel)⟩
theorem lw_p45 : lw_okq (⟨"SungAsleepModel", "round", "(III)I"⟩, 53) := ⟨⟨by decide +kernel, by decide +kernel⟩, List.mem_of_getElem? (i := 1004) (by decide +kernel), List.mem_of_getElem? (i := 1344) (by decide +kernel), List.mem_of_getElem? (i := 1345) (by decide +kernel)⟩
theorem lw_p46 : lw_okq (⟨"SungAsleepModel", "findLeast", "(II)V"⟩, 53) := ⟨⟨by decide +kernel, by decide +kernel⟩, List.mem_of_getElem? (i := 1004) (by decide +kernel), List.mem_of_getElem? (i := 1352) (by decide +kernel), List.mem_of_getElem? (i := 1353) (by decide +kernel)⟩
theorem lw_p47 : lw_okq (⟨"SungAsleepModel", "findLengths", "()V"⟩, 53) := ⟨⟨by decide +kernel, by decide +kernel⟩, List.mem_of_getElem? (i := 1004) (by decide +kernel), List.mem_of_getElem? (i := 1356) (by decide +kernel), List.mem_of_getElem? (i := 1357) (by decide +kernel)⟩
def lw_privs_3 : List (MethodName × Nat) := [(⟨"SungAsleepModel", "wantNumber", "(II)I"⟩, 53), (⟨"SungAsleepModel", "takes", "(J)Z"⟩, 53), (⟨"SungAsleepModel", "wantEnd", "()V"⟩, 53), (⟨"SungAsleepModel", "isMark", "(I)Z"⟩, 53), (⟨"SungAsleepModel", "wantOwes", "()V"⟩, 53), (⟨"SungAsleepModel", "wantAsleep", "()V"⟩, 53), (⟨"SungAsleepModel", "isPerson", "(I)Z"⟩, 53), (⟨"SungAsleepModel", "needs", "(I)I"⟩, 53), (⟨"SungAsleepModel", "isAsk", "(II)Z"⟩, 53), (⟨"SungAsleepModel", "canBe", "(III)Z"⟩, 53), (⟨"SungAsleepModel", "lengthOf", "(I)I"⟩, 53), (⟨"SungAsleepModel", "owesMore", "(III)V"⟩, 53), (⟨"SungAsleepModel", "only", "(I)I"⟩, 53), (⟨"SungAsleepModel", "round", "(III)I"⟩, 53), (⟨"SungAsleepModel", "findLeast", "(II)V"⟩, 53), (⟨"SungAsleepModel", "findLengths", "()V"⟩, 53)]
theorem lw_r3 : ∀ q ∈ lw_privs_3, lw_okq q := List.forall_mem_cons.mpr ⟨lw_p32, List.forall_mem_cons.mpr ⟨lw_p33, List.forall_mem_cons.mpr ⟨lw_p34, List.forall_mem_cons.mpr ⟨lw_p35, List.forall_mem_cons.mpr ⟨lw_p36, List.forall_mem_cons.mpr ⟨lw_p37, List.forall_mem_cons.mpr ⟨lw_p38, List.forall_mem_cons.mpr ⟨lw_p39, List.forall_mem_cons.mpr ⟨lw_p40, List.forall_mem_cons.mpr ⟨lw_p41, List.forall_mem_cons.mpr ⟨lw_p42, List.forall_mem_cons.mpr ⟨lw_p43, List.forall_mem_cons.mpr ⟨lw_p44, List.forall_mem_cons.mpr ⟨lw_p45, List.forall_mem_cons.mpr ⟨lw_p46, List.forall_mem_cons.mpr ⟨lw_p47, fun _ h => absurd h List.not_mem_nil⟩⟩⟩⟩⟩⟩⟩⟩⟩⟩⟩⟩⟩⟩⟩⟩
theorem lw_p48 : lw_okq (⟨"SungAsleepModel", "fewest", "(II)I"⟩, 53) := ⟨⟨by decide +kernel, by decide +kernel⟩, List.mem_of_getElem? (i := 1004) (by decide +kernel), List.mem_of_getElem? (i := 1361) (by decide +kernel), List.mem_of_getElem? (i := 1362) (by decide +kernel)⟩
theorem lw_p49 : lw_okq (⟨"SungAsleepModel", "costOf", "(II)I"⟩, 53) := ⟨⟨by decide +kernel, by decide +kernel⟩, List.mem_of_getElem? (i := 1004) (by decide +kernel), List.mem_of_getElem? (i := 1365) (by decide +kernel), List.mem_of_getElem? (i := 1366) (by decide +kernel)⟩
theorem lw_p50 : lw_okq (⟨"SungAsleepModel", "findPlan", "()Z"⟩, 53) := ⟨⟨by decide +kernel, by decide +kernel⟩, List.mem_of_getElem? (i := 1004) (by decide +kernel), List.mem_of_getElem? (i := 1384) (by decide +kernel), List.mem_of_getElem? (i := 1385) (by decide +kernel)⟩
theorem lw_p51 : lw_okq (⟨"SungAsleepModel", "findAll", "()V"⟩, 53) := ⟨⟨by decide +kernel, by decide +kernel⟩, List.mem_of_getElem? (i := 1004) (by decide +kernel), List.mem_of_getElem? (i := 1388) (by decide +kernel), List.mem_of_getElem? (i := 1389) (by decide +kernel)⟩
theorem lw_p52 : lw_okq (⟨"SungAsleepModel", "findMore", "(I)V"⟩, 53) := ⟨⟨by decide +kernel, by decide +kernel⟩, List.mem_of_getElem? (i := 1004) (by decide +kernel), List.mem_of_getElem? (i := 1392) (by decide +kernel), List.mem_of_getElem? (i := 1393) (by decide +kernel)⟩
theorem lw_p53 : lw_okq (⟨"SungAsleepModel", "isBest", "(III)Z"⟩, 53) := ⟨⟨by decide +kernel, by decide +kernel⟩, List.mem_of_getElem? (i := 1004) (by decide +kernel), List.mem_of_getElem? (i := 1396) (by decide +kernel), List.mem_of_getElem? (i := 1397) (by decide +kernel)⟩
theorem lw_p54 : lw_okq (⟨"SungAsleepModel", "noteFirst", "(I)V"⟩, 53) := ⟨⟨by decide +kernel, by decide +kernel⟩, List.mem_of_getElem? (i := 1004) (by decide +kernel), List.mem_of_getElem? (i := 1400) (by decide +kernel), List.mem_of_getElem? (i := 1401) (by decide +kernel)⟩
theorem lw_p55 : lw_okq (⟨"SungAsleepModel", "isFirst", "(III)Z"⟩, 53) := ⟨⟨by decide +kernel, by decide +kernel⟩, List.mem_of_getElem? (i := 1004) (by decide +kernel), List.mem_of_getElem? (i := 1404) (by decide +kernel), List.mem_of_getElem? (i := 1405) (by decide +kernel)⟩
theorem lw_p56 : lw_okq (⟨"SungAsleepModel", "isRow", "(II)Z"⟩, 53) := ⟨⟨by decide +kernel, by decide +kernel⟩, List.mem_of_getElem? (i := 1004) (by decide +kernel), List.mem_of_getElem? (i := 1449) (by decide +kernel), List.mem_of_getElem? (i := 1450) (by decide +kernel)⟩
theorem lw_p57 : lw_okq (⟨"SungAsleepModel", "lacksSort", "(II)I"⟩, 53) := ⟨⟨by decide +kernel, by decide +kernel⟩, List.mem_of_getElem? (i := 1004) (by decide +kernel), List.mem_of_getElem? (i := 1468) (by decide +kernel), List.mem_of_getElem? (i := 1469) (by decide +kernel)⟩
theorem lw_p58 : lw_okq (⟨"SungAsleepModel", "isHeld", "(II)Z"⟩, 53) := ⟨⟨by decide +kernel, by decide +kernel⟩, List.mem_of_getElem? (i := 1004) (by decide +kernel), List.mem_of_getElem? (i := 1489) (by decide +kernel), List.mem_of_getElem? (i := 1490) (by decide +kernel)⟩
theorem lw_p59 : lw_okq (⟨"SungAsleepModel", "kindOn", "(I)I"⟩, 53) := ⟨⟨by decide +kernel, by decide +kernel⟩, List.mem_of_getElem? (i := 1004) (by decide +kernel), List.mem_of_getElem? (i := 1497) (by decide +kernel), List.mem_of_getElem? (i := 1498) (by decide +kernel)⟩
theorem lw_p60 : lw_okq (⟨"SungAsleepModel", "singsIt", "(I)I"⟩, 53) := ⟨⟨by decide +kernel, by decide +kernel⟩, List.mem_of_getElem? (i := 1004) (by decide +kernel), List.mem_of_getElem? (i := 1508) (by decide +kernel), List.mem_of_getElem? (i := 1509) (by decide +kernel)⟩
theorem lw_p61 : lw_okq (⟨"SungAsleepModel", "oldSings", "(I)I"⟩, 53) := ⟨⟨by decide +kernel, by decide +kernel⟩, List.mem_of_getElem? (i := 1004) (by decide +kernel), List.mem_of_getElem? (i := 1512) (by decide +kernel), List.mem_of_getElem? (i := 1513) (by decide +kernel)⟩
theorem lw_p62 : lw_okq (⟨"SungAsleepModel", "ran", "(I)V"⟩, 53) := ⟨⟨by decide +kernel, by decide +kernel⟩, List.mem_of_getElem? (i := 1004) (by decide +kernel), List.mem_of_getElem? (i := 1516) (by decide +kernel), List.mem_of_getElem? (i := 1517) (by decide +kernel)⟩
theorem lw_p63 : lw_okq (⟨"SungAsleepModel", "plainSings", "(I)I"⟩, 53) := ⟨⟨by decide +kernel, by decide +kernel⟩, List.mem_of_getElem? (i := 1004) (by decide +kernel), List.mem_of_getElem? (i := 1520) (by decide +kernel), List.mem_of_getElem? (i := 1521) (by decide +kernel)⟩
def lw_privs_4 : List (MethodName × Nat) := [(⟨"SungAsleepModel", "fewest", "(II)I"⟩, 53), (⟨"SungAsleepModel", "costOf", "(II)I"⟩, 53), (⟨"SungAsleepModel", "findPlan", "()Z"⟩, 53), (⟨"SungAsleepModel", "findAll", "()V"⟩, 53), (⟨"SungAsleepModel", "findMore", "(I)V"⟩, 53), (⟨"SungAsleepModel", "isBest", "(III)Z"⟩, 53), (⟨"SungAsleepModel", "noteFirst", "(I)V"⟩, 53), (⟨"SungAsleepModel", "isFirst", "(III)Z"⟩, 53), (⟨"SungAsleepModel", "isRow", "(II)Z"⟩, 53), (⟨"SungAsleepModel", "lacksSort", "(II)I"⟩, 53), (⟨"SungAsleepModel", "isHeld", "(II)Z"⟩, 53), (⟨"SungAsleepModel", "kindOn", "(I)I"⟩, 53), (⟨"SungAsleepModel", "singsIt", "(I)I"⟩, 53), (⟨"SungAsleepModel", "oldSings", "(I)I"⟩, 53), (⟨"SungAsleepModel", "ran", "(I)V"⟩, 53), (⟨"SungAsleepModel", "plainSings", "(I)I"⟩, 53)]
theorem lw_r4 : ∀ q ∈ lw_privs_4, lw_okq q := List.forall_mem_cons.mpr ⟨lw_p48, List.forall_mem_cons.mpr ⟨lw_p49, List.forall_mem_cons.mpr ⟨lw_p50, List.forall_mem_cons.mpr ⟨lw_p51, List.forall_mem_cons.mpr ⟨lw_p52, List.forall_mem_cons.mpr ⟨lw_p53, List.forall_mem_cons.mpr ⟨lw_p54, List.forall_mem_cons.mpr ⟨lw_p55, List.forall_mem_cons.mpr ⟨lw_p56, List.forall_mem_cons.mpr ⟨lw_p57, List.forall_mem_cons.mpr ⟨lw_p58, List.forall_mem_cons.mpr ⟨lw_p59, List.forall_mem_cons.mpr ⟨lw_p60, List.forall_mem_cons.mpr ⟨lw_p61, List.forall_mem_cons.mpr ⟨lw_p62, List.forall_mem_cons.mpr ⟨lw_p63, fun _ h => absurd h List.not_mem_nil⟩⟩⟩⟩⟩⟩⟩⟩⟩⟩⟩⟩⟩⟩⟩⟩
theorem lw_p64 : lw_okq (⟨"SungAsleepModel", "needsIt", "(I)I"⟩, 53) := ⟨⟨by decide +kernel, by decide +kernel⟩, List.mem_of_getElem? (i := 1004) (by decide +kernel), List.mem_of_getElem? (i := 1524) (by decide +kernel), List.mem_of_getElem? (i := 1525) (by decide +kernel)⟩
theorem lw_p65 : lw_okq (⟨"SungAsleepModel", "plainNeeds", "(I)I"⟩, 53) := ⟨⟨by decide +kernel, by decide +kernel⟩, List.mem_of_getElem? (i := 1004) (by decide +kernel), List.mem_of_getElem? (i := 1528) (by decide +kernel), List.mem_of_getElem? (i := 1529) (by decide +kernel)⟩
theorem lw_p66 : lw_okq (⟨"SungAsleepModel", "sharesIt", "(I)I"⟩, 53) := ⟨⟨by decide +kernel, by decide +kernel⟩, List.mem_of_getElem? (i := 1004) (by decide +kernel), List.mem_of_getElem? (i := 1532) (by decide +kernel), List.mem_of_getElem? (i := 1533) (by decide +kernel)⟩
theorem lw_p67 : lw_okq (⟨"SungAsleepModel", "plainShares", "(I)I"⟩, 53) := ⟨⟨by decide +kernel, by decide +kernel⟩, List.mem_of_getElem? (i := 1004) (by decide +kernel), List.mem_of_getElem? (i := 1536) (by decide +kernel), List.mem_of_getElem? (i := 1537) (by decide +kernel)⟩
theorem lw_p68 : lw_okq (⟨"SungAsleepModel", "tellsIt", "(I)I"⟩, 53) := ⟨⟨by decide +kernel, by decide +kernel⟩, List.mem_of_getElem? (i := 1004) (by decide +kernel), List.mem_of_getElem? (i := 1540) (by decide +kernel), List.mem_of_getElem? (i := 1541) (by decide +kernel)⟩
theorem lw_p69 : lw_okq (⟨"SungAsleepModel", "plainTells", "(I)I"⟩, 53) := ⟨⟨by decide +kernel, by decide +kernel⟩, List.mem_of_getElem? (i := 1004) (by decide +kernel), List.mem_of_getElem? (i := 1544) (by decide +kernel), List.mem_of_getElem? (i := 1545) (by decide +kernel)⟩
theorem lw_p70 : lw_okq (⟨"SungAsleepModel", "moveAll", "(Z)V"⟩, 53) := ⟨⟨by decide +kernel, by decide +kernel⟩, List.mem_of_getElem? (i := 1004) (by decide +kernel), List.mem_of_getElem? (i := 1560) (by decide +kernel), List.mem_of_getElem? (i := 1561) (by decide +kernel)⟩
theorem lw_p71 : lw_okq (⟨"SungAsleepModel", "moveRow", "([IIZ)V"⟩, 53) := ⟨⟨by decide +kernel, by decide +kernel⟩, List.mem_of_getElem? (i := 1004) (by decide +kernel), List.mem_of_getElem? (i := 1564) (by decide +kernel), List.mem_of_getElem? (i := 1565) (by decide +kernel)⟩
def lw_privs_5 : List (MethodName × Nat) := [(⟨"SungAsleepModel", "needsIt", "(I)I"⟩, 53), (⟨"SungAsleepModel", "plainNeeds", "(I)I"⟩, 53), (⟨"SungAsleepModel", "sharesIt", "(I)I"⟩, 53), (⟨"SungAsleepModel", "plainShares", "(I)I"⟩, 53), (⟨"SungAsleepModel", "tellsIt", "(I)I"⟩, 53), (⟨"SungAsleepModel", "plainTells", "(I)I"⟩, 53), (⟨"SungAsleepModel", "moveAll", "(Z)V"⟩, 53), (⟨"SungAsleepModel", "moveRow", "([IIZ)V"⟩, 53)]
theorem lw_r5 : ∀ q ∈ lw_privs_5, lw_okq q := List.forall_mem_cons.mpr ⟨lw_p64, List.forall_mem_cons.mpr ⟨lw_p65, List.forall_mem_cons.mpr ⟨lw_p66, List.forall_mem_cons.mpr ⟨lw_p67, List.forall_mem_cons.mpr ⟨lw_p68, List.forall_mem_cons.mpr ⟨lw_p69, List.forall_mem_cons.mpr ⟨lw_p70, List.forall_mem_cons.mpr ⟨lw_p71, fun _ h => absurd h List.not_mem_nil⟩⟩⟩⟩⟩⟩⟩⟩
def lw_privs : List (MethodName × Nat) := lw_privs_1 ++ (lw_privs_2 ++ (lw_privs_3 ++ (lw_privs_4 ++ (lw_privs_5))))
def lw_tbl : List Cond := k2_sels lw_privs ++ tables_1
theorem lw_privs_ok : ∀ q ∈ lw_privs, lw_okq q := by
  show ∀ q ∈ lw_privs_1 ++ (lw_privs_2 ++ (lw_privs_3 ++ (lw_privs_4 ++ (lw_privs_5)))), lw_okq q
  exact List.forall_mem_append.mpr ⟨lw_r1, List.forall_mem_append.mpr ⟨lw_r2, List.forall_mem_append.mpr ⟨lw_r3, List.forall_mem_append.mpr ⟨lw_r4, lw_r5⟩⟩⟩⟩

def RX0 : String := "SungAsleep$Child"
def TX0 : u_T := fun k => match k with
  | 0 => ("SungAsleep$Sleeper", "number", "I", true)
  | 1 => ("SungAsleep$Sleeper", "age", "I", false)
  | 2 => ("SungAsleep$Sleeper", "voice", "I", false)
  | 3 => ("SungAsleep$Sleeper", "purse", "I", false)
  | 4 => ("SungAsleep$Sleeper", "lasts", "I", false)
  | 5 => ("SungAsleep$Sleeper", "sung", "I", false)
  | _ => ("SungAsleep$Sleeper", "awake", "Z", false)
def tyX0 : Nat → FieldType := fun k => match k with
  | 0 => .int
  | 1 => .int
  | 2 => .int
  | 3 => .int
  | 4 => .int
  | 5 => .int
  | _ => .boolean
theorem nmX0 : ∀ a, a < 7 → ∀ b, b < 7 → a ≠ b → (TX0 a).2.1 ≠ (TX0 b).2.1 := by decide +kernel
theorem tyX0_ok : ∀ k, k < 7 → parseFieldDescriptor (TX0 k).2.2.1 = some (tyX0 k) := by decide +kernel
abbrev cX0_init : ByteArray := prog_2_method_1_code
def yX0_init : MethodName := ⟨RX0, "<init>", "(II)V"⟩
abbrev cX0_kind : ByteArray := prog_2_method_2_code
def yX0_kind : MethodName := ⟨RX0, "kind", "()I"⟩
abbrev cX0_minutes : ByteArray := prog_2_method_3_code
def yX0_minutes : MethodName := ⟨RX0, "minutes", "()I"⟩
abbrev cX0_needs : ByteArray := prog_2_method_4_code
def yX0_needs : MethodName := ⟨RX0, "needs", "(LSungAsleep$Trace;I)I"⟩
def RX1 : String := "SungAsleep$Deaf"
def TX1 : u_T := fun k => match k with
  | 0 => ("SungAsleep$Sleeper", "number", "I", true)
  | 1 => ("SungAsleep$Sleeper", "age", "I", false)
  | 2 => ("SungAsleep$Sleeper", "voice", "I", false)
  | 3 => ("SungAsleep$Sleeper", "purse", "I", false)
  | 4 => ("SungAsleep$Sleeper", "lasts", "I", false)
  | 5 => ("SungAsleep$Sleeper", "sung", "I", false)
  | _ => ("SungAsleep$Sleeper", "awake", "Z", false)
def tyX1 : Nat → FieldType := fun k => match k with
  | 0 => .int
  | 1 => .int
  | 2 => .int
  | 3 => .int
  | 4 => .int
  | 5 => .int
  | _ => .boolean
theorem nmX1 : ∀ a, a < 7 → ∀ b, b < 7 → a ≠ b → (TX1 a).2.1 ≠ (TX1 b).2.1 := by decide +kernel
theorem tyX1_ok : ∀ k, k < 7 → parseFieldDescriptor (TX1 k).2.2.1 = some (tyX1 k) := by decide +kernel
abbrev cX1_init : ByteArray := prog_3_method_1_code
def yX1_init : MethodName := ⟨RX1, "<init>", "(II)V"⟩
abbrev cX1_kind : ByteArray := prog_3_method_2_code
def yX1_kind : MethodName := ⟨RX1, "kind", "()I"⟩
abbrev cX1_alone : ByteArray := prog_3_method_3_code
def yX1_alone : MethodName := ⟨RX1, "alone", "()Z"⟩
abbrev cX1_sings : ByteArray := prog_3_method_4_code
def yX1_sings : MethodName := ⟨RX1, "sings", "(LSungAsleep$Trace;I)I"⟩
abbrev cX1_needs : ByteArray := prog_3_method_5_code
def yX1_needs : MethodName := ⟨RX1, "needs", "(LSungAsleep$Trace;I)I"⟩
def RX2 : String := "SungAsleep$Old"
def TX2 : u_T := fun k => match k with
  | 0 => ("SungAsleep$Sleeper", "number", "I", true)
  | 1 => ("SungAsleep$Sleeper", "age", "I", false)
  | 2 => ("SungAsleep$Sleeper", "voice", "I", false)
  | 3 => ("SungAsleep$Sleeper", "purse", "I", false)
  | 4 => ("SungAsleep$Sleeper", "lasts", "I", false)
  | 5 => ("SungAsleep$Sleeper", "sung", "I", false)
  | _ => ("SungAsleep$Sleeper", "awake", "Z", false)
def tyX2 : Nat → FieldType := fun k => match k with
  | 0 => .int
  | 1 => .int
  | 2 => .int
  | 3 => .int
  | 4 => .int
  | 5 => .int
  | _ => .boolean
theorem nmX2 : ∀ a, a < 7 → ∀ b, b < 7 → a ≠ b → (TX2 a).2.1 ≠ (TX2 b).2.1 := by decide +kernel
theorem tyX2_ok : ∀ k, k < 7 → parseFieldDescriptor (TX2 k).2.2.1 = some (tyX2 k) := by decide +kernel
abbrev cX2_init : ByteArray := prog_4_method_1_code
def yX2_init : MethodName := ⟨RX2, "<init>", "(II)V"⟩
abbrev cX2_kind : ByteArray := prog_4_method_2_code
def yX2_kind : MethodName := ⟨RX2, "kind", "()I"⟩
abbrev cX2_minutes : ByteArray := prog_4_method_3_code
def yX2_minutes : MethodName := ⟨RX2, "minutes", "()I"⟩
abbrev cX2_sings : ByteArray := prog_4_method_4_code
def yX2_sings : MethodName := ⟨RX2, "sings", "(LSungAsleep$Trace;I)I"⟩
abbrev cX2_tells : ByteArray := prog_4_method_5_code
def yX2_tells : MethodName := ⟨RX2, "tells", "(LSungAsleep$Trace;I)I"⟩
def RX3 : String := "SungAsleep$Reckoner"
def TX3 : u_T := fun k => match k with
  | 0 => ("SungAsleep$Reckoner", "asked", "[I", true)
  | 1 => ("SungAsleep$Reckoner", "awake", "I", false)
  | 2 => ("SungAsleep$Reckoner", "alone", "I", false)
  | 3 => ("SungAsleep$Reckoner", "sets", "[I", true)
  | 4 => ("SungAsleep$Reckoner", "setCount", "I", false)
  | 5 => ("SungAsleep$Reckoner", "minutes", "[I", true)
  | 6 => ("SungAsleep$Reckoner", "able", "[I", true)
  | 7 => ("SungAsleep$Reckoner", "fewest", "[I", true)
  | 8 => ("SungAsleep$Reckoner", "songs", "[I", true)
  | 9 => ("SungAsleep$Reckoner", "rowsToIt", "[I", true)
  | 10 => ("SungAsleep$Reckoner", "bestEnds", "[I", true)
  | 11 => ("SungAsleep$Reckoner", "anyEnds", "[I", true)
  | 12 => ("SungAsleep$Reckoner", "planSinger", "[I", true)
  | 13 => ("SungAsleep$Reckoner", "planWhom", "[I", true)
  | _ => ("SungAsleep$Reckoner", "planSize", "I", false)
def tyX3 : Nat → FieldType := fun k => match k with
  | 0 => .array .int
  | 1 => .int
  | 2 => .int
  | 3 => .array .int
  | 4 => .int
  | 5 => .array .int
  | 6 => .array .int
  | 7 => .array .int
  | 8 => .array .int
  | 9 => .array .int
  | 10 => .array .int
  | 11 => .array .int
  | 12 => .array .int
  | 13 => .array .int
  | _ => .int
theorem nmX3 : ∀ a, a < 15 → ∀ b, b < 15 → a ≠ b → (TX3 a).2.1 ≠ (TX3 b).2.1 := by decide +kernel
theorem tyX3_ok : ∀ k, k < 15 → parseFieldDescriptor (TX3 k).2.2.1 = some (tyX3 k) := by decide +kernel
abbrev cX3_init : ByteArray := prog_5_method_1_code
def yX3_init : MethodName := ⟨RX3, "<init>", "()V"⟩
abbrev cX3_ask : ByteArray := prog_5_method_2_code
def yX3_ask : MethodName := ⟨RX3, "ask", "(LSungAsleep$Valley;III)V"⟩
abbrev cX3_note : ByteArray := prog_5_method_3_code
def yX3_note : MethodName := ⟨RX3, "note", "(II)Z"⟩
abbrev cX3_reckon : ByteArray := prog_5_method_4_code
def yX3_reckon : MethodName := ⟨RX3, "reckon", "(I)V"⟩
abbrev cX3_listSongs : ByteArray := prog_5_method_5_code
def yX3_listSongs : MethodName := ⟨RX3, "listSongs", "()V"⟩
abbrev cX3_isSungTo : ByteArray := prog_5_method_6_code
def yX3_isSungTo : MethodName := ⟨RX3, "isSungTo", "(I)Z"⟩
abbrev cX3_ableFor : ByteArray := prog_5_method_7_code
def yX3_ableFor : MethodName := ⟨RX3, "ableFor", "(I)I"⟩
abbrev cX3_reckonSet : ByteArray := prog_5_method_8_code
def yX3_reckonSet : MethodName := ⟨RX3, "reckonSet", "(II)V"⟩
abbrev cX3_weigh : ByteArray := prog_5_method_9_code
def yX3_weigh : MethodName := ⟨RX3, "weigh", "(II)V"⟩
abbrev cX3_leastOf : ByteArray := prog_5_method_10_code
def yX3_leastOf : MethodName := ⟨RX3, "leastOf", "(I)I"⟩
abbrev cX3_waysOf : ByteArray := prog_5_method_11_code
def yX3_waysOf : MethodName := ⟨RX3, "waysOf", "(I)I"⟩
abbrev cX3_lastsOf : ByteArray := prog_5_method_12_code
def yX3_lastsOf : MethodName := ⟨RX3, "lastsOf", "(I)I"⟩
abbrev cX3_endsOf : ByteArray := prog_5_method_13_code
def yX3_endsOf : MethodName := ⟨RX3, "endsOf", "(I)I"⟩
abbrev cX3_layPlan : ByteArray := prog_5_method_14_code
def yX3_layPlan : MethodName := ⟨RX3, "layPlan", "()V"⟩
abbrev cX3_laySong : ByteArray := prog_5_method_15_code
def yX3_laySong : MethodName := ⟨RX3, "laySong", "(II)V"⟩
abbrev cX3_isBest : ByteArray := prog_5_method_16_code
def yX3_isBest : MethodName := ⟨RX3, "isBest", "(III)Z"⟩
abbrev cX3_planLast : ByteArray := prog_5_method_17_code
def yX3_planLast : MethodName := ⟨RX3, "planLast", "()I"⟩
def RX4 : String := "SungAsleep$Restless"
def TX4 : u_T := fun k => match k with
  | 0 => ("SungAsleep$Sleeper", "number", "I", true)
  | 1 => ("SungAsleep$Sleeper", "age", "I", false)
  | 2 => ("SungAsleep$Sleeper", "voice", "I", false)
  | 3 => ("SungAsleep$Sleeper", "purse", "I", false)
  | 4 => ("SungAsleep$Sleeper", "lasts", "I", false)
  | 5 => ("SungAsleep$Sleeper", "sung", "I", false)
  | _ => ("SungAsleep$Sleeper", "awake", "Z", false)
def tyX4 : Nat → FieldType := fun k => match k with
  | 0 => .int
  | 1 => .int
  | 2 => .int
  | 3 => .int
  | 4 => .int
  | 5 => .int
  | _ => .boolean
theorem nmX4 : ∀ a, a < 7 → ∀ b, b < 7 → a ≠ b → (TX4 a).2.1 ≠ (TX4 b).2.1 := by decide +kernel
theorem tyX4_ok : ∀ k, k < 7 → parseFieldDescriptor (TX4 k).2.2.1 = some (tyX4 k) := by decide +kernel
abbrev cX4_init : ByteArray := prog_6_method_1_code
def yX4_init : MethodName := ⟨RX4, "<init>", "(II)V"⟩
abbrev cX4_kind : ByteArray := prog_6_method_2_code
def yX4_kind : MethodName := ⟨RX4, "kind", "()I"⟩
abbrev cX4_minutes : ByteArray := prog_6_method_3_code
def yX4_minutes : MethodName := ⟨RX4, "minutes", "()I"⟩
abbrev cX4_shares : ByteArray := prog_6_method_4_code
def yX4_shares : MethodName := ⟨RX4, "shares", "(LSungAsleep$Trace;I)I"⟩
abbrev cX4_sings : ByteArray := prog_6_method_5_code
def yX4_sings : MethodName := ⟨RX4, "sings", "(LSungAsleep$Trace;I)I"⟩
def RX5 : String := "SungAsleep$Row"
def TX5 : u_T := fun k => match k with
  | 0 => ("SungAsleep$Row", "sort", "I", true)
  | _ => ("SungAsleep$Row", "items", "[J", true)
def tyX5 : Nat → FieldType := fun k => match k with
  | 0 => .int
  | _ => .array .long
theorem nmX5 : ∀ a, a < 2 → ∀ b, b < 2 → a ≠ b → (TX5 a).2.1 ≠ (TX5 b).2.1 := by decide +kernel
theorem tyX5_ok : ∀ k, k < 2 → parseFieldDescriptor (TX5 k).2.2.1 = some (tyX5 k) := by decide +kernel
abbrev cX5_init : ByteArray := prog_7_method_1_code
def yX5_init : MethodName := ⟨RX5, "<init>", "(II)V"⟩
abbrev cX5_has : ByteArray := prog_7_method_2_code
def yX5_has : MethodName := ⟨RX5, "has", "(I)Z"⟩
abbrev cX5_narrowed : ByteArray := prog_7_method_3_code
def yX5_narrowed : MethodName := ⟨RX5, "narrowed", "(I)J"⟩
def RX6 : String := "SungAsleep$Sleeper"
def TX6 : u_T := fun k => match k with
  | 0 => ("SungAsleep$Sleeper", "number", "I", true)
  | 1 => ("SungAsleep$Sleeper", "age", "I", false)
  | 2 => ("SungAsleep$Sleeper", "voice", "I", false)
  | 3 => ("SungAsleep$Sleeper", "purse", "I", false)
  | 4 => ("SungAsleep$Sleeper", "lasts", "I", false)
  | 5 => ("SungAsleep$Sleeper", "sung", "I", false)
  | _ => ("SungAsleep$Sleeper", "awake", "Z", false)
def tyX6 : Nat → FieldType := fun k => match k with
  | 0 => .int
  | 1 => .int
  | 2 => .int
  | 3 => .int
  | 4 => .int
  | 5 => .int
  | _ => .boolean
theorem nmX6 : ∀ a, a < 7 → ∀ b, b < 7 → a ≠ b → (TX6 a).2.1 ≠ (TX6 b).2.1 := by decide +kernel
theorem tyX6_ok : ∀ k, k < 7 → parseFieldDescriptor (TX6 k).2.2.1 = some (tyX6 k) := by decide +kernel
abbrev cX6_init : ByteArray := prog_8_method_1_code
def yX6_init : MethodName := ⟨RX6, "<init>", "(II)V"⟩
abbrev cX6_kind : ByteArray := prog_8_method_2_code
def yX6_kind : MethodName := ⟨RX6, "kind", "()I"⟩
abbrev cX6_minutes : ByteArray := prog_8_method_3_code
def yX6_minutes : MethodName := ⟨RX6, "minutes", "()I"⟩
abbrev cX6_alone : ByteArray := prog_8_method_4_code
def yX6_alone : MethodName := ⟨RX6, "alone", "()Z"⟩
abbrev cX6_pays : ByteArray := prog_8_method_5_code
def yX6_pays : MethodName := ⟨RX6, "pays", "()Z"⟩
abbrev cX6_sings : ByteArray := prog_8_method_6_code
def yX6_sings : MethodName := ⟨RX6, "sings", "(LSungAsleep$Trace;I)I"⟩
abbrev cX6_needs : ByteArray := prog_8_method_7_code
def yX6_needs : MethodName := ⟨RX6, "needs", "(LSungAsleep$Trace;I)I"⟩
abbrev cX6_shares : ByteArray := prog_8_method_8_code
def yX6_shares : MethodName := ⟨RX6, "shares", "(LSungAsleep$Trace;I)I"⟩
abbrev cX6_tells : ByteArray := prog_8_method_9_code
def yX6_tells : MethodName := ⟨RX6, "tells", "(LSungAsleep$Trace;I)I"⟩
def RX7 : String := "SungAsleep$Tape"
def TX7 : u_T := fun k => match k with
  | 0 => ("SungAsleep$Tape", "bytes", "[I", true)
  | 1 => ("SungAsleep$Tape", "size", "I", false)
  | 2 => ("SungAsleep$Tape", "place", "I", false)
  | _ => ("SungAsleep$Tape", "behind", "I", false)
def tyX7 : Nat → FieldType := fun k => match k with
  | 0 => .array .int
  | 1 => .int
  | 2 => .int
  | _ => .int
theorem nmX7 : ∀ a, a < 4 → ∀ b, b < 4 → a ≠ b → (TX7 a).2.1 ≠ (TX7 b).2.1 := by decide +kernel
theorem tyX7_ok : ∀ k, k < 4 → parseFieldDescriptor (TX7 k).2.2.1 = some (tyX7 k) := by decide +kernel
abbrev cX7_init : ByteArray := prog_9_method_1_code
def yX7_init : MethodName := ⟨RX7, "<init>", "()V"⟩
abbrev cX7_append : ByteArray := prog_9_method_2_code
def yX7_append : MethodName := ⟨RX7, "append", "(I)V"⟩
abbrev cX7_faultOf : ByteArray := prog_9_method_3_code
def yX7_faultOf : MethodName := ⟨RX7, "faultOf", "(LSungAsleep$Valley;)I"⟩
abbrev cX7_readsPerson : ByteArray := prog_9_method_4_code
def yX7_readsPerson : MethodName := ⟨RX7, "readsPerson", "(ILSungAsleep$Valley;)Z"⟩
abbrev cX7_readsVoice : ByteArray := prog_9_method_5_code
def yX7_readsVoice : MethodName := ⟨RX7, "readsVoice", "(LSungAsleep$Sleeper;)Z"⟩
abbrev cX7_readsPurse : ByteArray := prog_9_method_6_code
def yX7_readsPurse : MethodName := ⟨RX7, "readsPurse", "(LSungAsleep$Sleeper;)Z"⟩
abbrev cX7_readsOwes : ByteArray := prog_9_method_7_code
def yX7_readsOwes : MethodName := ⟨RX7, "readsOwes", "(LSungAsleep$Valley;)Z"⟩
abbrev cX7_readsAsleep : ByteArray := prog_9_method_8_code
def yX7_readsAsleep : MethodName := ⟨RX7, "readsAsleep", "(LSungAsleep$Valley;)Z"⟩
abbrev cX7_readsSemicolon : ByteArray := prog_9_method_9_code
def yX7_readsSemicolon : MethodName := ⟨RX7, "readsSemicolon", "()Z"⟩
abbrev cX7_pass : ByteArray := prog_9_method_10_code
def yX7_pass : MethodName := ⟨RX7, "pass", "()V"⟩
abbrev cX7_skipBlanks : ByteArray := prog_9_method_11_code
def yX7_skipBlanks : MethodName := ⟨RX7, "skipBlanks", "()V"⟩
abbrev cX7_byteAt : ByteArray := prog_9_method_12_code
def yX7_byteAt : MethodName := ⟨RX7, "byteAt", "(I)I"⟩
abbrev cX7_wordHere : ByteArray := prog_9_method_13_code
def yX7_wordHere : MethodName := ⟨RX7, "wordHere", "()I"⟩
abbrev cX7_isHere : ByteArray := prog_9_method_14_code
def yX7_isHere : MethodName := ⟨RX7, "isHere", "(Ljava/lang/String;)Z"⟩
abbrev cX7_nameOf : ByteArray := prog_9_method_15_code
def yX7_nameOf : MethodName := ⟨RX7, "nameOf", "(I)Ljava/lang/String;"⟩
abbrev cX7_numberHere : ByteArray := prog_9_method_16_code
def yX7_numberHere : MethodName := ⟨RX7, "numberHere", "(II)I"⟩
def RX8 : String := "SungAsleep$Trace"
def TX8 : u_T := fun k => match k with
  | 0 => ("SungAsleep$Trace", "begun", "[I", true)
  | 1 => ("SungAsleep$Trace", "size", "I", false)
  | _ => ("SungAsleep$Trace", "broken", "Z", false)
def tyX8 : Nat → FieldType := fun k => match k with
  | 0 => .array .int
  | 1 => .int
  | _ => .boolean
theorem nmX8 : ∀ a, a < 3 → ∀ b, b < 3 → a ≠ b → (TX8 a).2.1 ≠ (TX8 b).2.1 := by decide +kernel
theorem tyX8_ok : ∀ k, k < 3 → parseFieldDescriptor (TX8 k).2.2.1 = some (tyX8 k) := by decide +kernel
abbrev cX8_init : ByteArray := prog_10_method_1_code
def yX8_init : MethodName := ⟨RX8, "<init>", "()V"⟩
abbrev cX8_clear : ByteArray := prog_10_method_2_code
def yX8_clear : MethodName := ⟨RX8, "clear", "()V"⟩
abbrev cX8_begins : ByteArray := prog_10_method_3_code
def yX8_begins : MethodName := ⟨RX8, "begins", "(I)Z"⟩
abbrev cX8_parted : ByteArray := prog_10_method_4_code
def yX8_parted : MethodName := ⟨RX8, "parted", "(II)I"⟩
def RX9 : String := "SungAsleep$Traveller"
def TX9 : u_T := fun k => match k with
  | 0 => ("SungAsleep$Sleeper", "number", "I", true)
  | 1 => ("SungAsleep$Sleeper", "age", "I", false)
  | 2 => ("SungAsleep$Sleeper", "voice", "I", false)
  | 3 => ("SungAsleep$Sleeper", "purse", "I", false)
  | 4 => ("SungAsleep$Sleeper", "lasts", "I", false)
  | 5 => ("SungAsleep$Sleeper", "sung", "I", false)
  | _ => ("SungAsleep$Sleeper", "awake", "Z", false)
def tyX9 : Nat → FieldType := fun k => match k with
  | 0 => .int
  | 1 => .int
  | 2 => .int
  | 3 => .int
  | 4 => .int
  | 5 => .int
  | _ => .boolean
theorem nmX9 : ∀ a, a < 7 → ∀ b, b < 7 → a ≠ b → (TX9 a).2.1 ≠ (TX9 b).2.1 := by decide +kernel
theorem tyX9_ok : ∀ k, k < 7 → parseFieldDescriptor (TX9 k).2.2.1 = some (tyX9 k) := by decide +kernel
abbrev cX9_init : ByteArray := prog_11_method_1_code
def yX9_init : MethodName := ⟨RX9, "<init>", "(II)V"⟩
abbrev cX9_kind : ByteArray := prog_11_method_2_code
def yX9_kind : MethodName := ⟨RX9, "kind", "()I"⟩
abbrev cX9_pays : ByteArray := prog_11_method_3_code
def yX9_pays : MethodName := ⟨RX9, "pays", "()Z"⟩
abbrev cX9_tells : ByteArray := prog_11_method_4_code
def yX9_tells : MethodName := ⟨RX9, "tells", "(LSungAsleep$Trace;I)I"⟩
abbrev cX9_shares : ByteArray := prog_11_method_5_code
def yX9_shares : MethodName := ⟨RX9, "shares", "(LSungAsleep$Trace;I)I"⟩
def RX10 : String := "SungAsleep$Valley"
def TX10 : u_T := fun k => match k with
  | 0 => ("SungAsleep$Valley", "people", "[LSungAsleep$Sleeper;", true)
  | 1 => ("SungAsleep$Valley", "debts", "[I", true)
  | 2 => ("SungAsleep$Valley", "size", "I", false)
  | 3 => ("SungAsleep$Valley", "minute", "I", false)
  | _ => ("SungAsleep$Valley", "z", "I", false)
def tyX10 : Nat → FieldType := fun k => match k with
  | 0 => .array (.object "SungAsleep$Sleeper")
  | 1 => .array .int
  | 2 => .int
  | 3 => .int
  | _ => .int
theorem nmX10 : ∀ a, a < 5 → ∀ b, b < 5 → a ≠ b → (TX10 a).2.1 ≠ (TX10 b).2.1 := by decide +kernel
theorem tyX10_ok : ∀ k, k < 5 → parseFieldDescriptor (TX10 k).2.2.1 = some (tyX10 k) := by decide +kernel
abbrev cX10_init : ByteArray := prog_12_method_1_code
def yX10_init : MethodName := ⟨RX10, "<init>", "()V"⟩
abbrev cX10_at : ByteArray := prog_12_method_2_code
def yX10_at : MethodName := ⟨RX10, "at", "(I)LSungAsleep$Sleeper;"⟩
abbrev cX10_join : ByteArray := prog_12_method_3_code
def yX10_join : MethodName := ⟨RX10, "join", "(LSungAsleep$Sleeper;)V"⟩
abbrev cX10_awakeSet : ByteArray := prog_12_method_4_code
def yX10_awakeSet : MethodName := ⟨RX10, "awakeSet", "()I"⟩
abbrev cX10_aloneSet : ByteArray := prog_12_method_5_code
def yX10_aloneSet : MethodName := ⟨RX10, "aloneSet", "()I"⟩
abbrev cX10_sungByAll : ByteArray := prog_12_method_6_code
def yX10_sungByAll : MethodName := ⟨RX10, "sungByAll", "()I"⟩
abbrev cX10_neededBy : ByteArray := prog_12_method_7_code
def yX10_neededBy : MethodName := ⟨RX10, "neededBy", "(I)I"⟩
abbrev cX10_songMinutes : ByteArray := prog_12_method_8_code
def yX10_songMinutes : MethodName := ⟨RX10, "songMinutes", "(III)I"⟩
abbrev cX10_settleSong : ByteArray := prog_12_method_9_code
def yX10_settleSong : MethodName := ⟨RX10, "settleSong", "(III)V"⟩
abbrev cX10_settleWith : ByteArray := prog_12_method_10_code
def yX10_settleWith : MethodName := ⟨RX10, "settleWith", "(LSungAsleep$Sleeper;LSungAsleep$Sleeper;)V"⟩
abbrev cX10_beginDay : ByteArray := prog_12_method_11_code
def yX10_beginDay : MethodName := ⟨RX10, "beginDay", "()V"⟩
abbrev cX10_debt : ByteArray := prog_12_method_12_code
def yX10_debt : MethodName := ⟨RX10, "debt", "(II)I"⟩
abbrev cX10_setDebt : ByteArray := prog_12_method_13_code
def yX10_setDebt : MethodName := ⟨RX10, "setDebt", "(III)V"⟩
abbrev cX10_lessen : ByteArray := prog_12_method_14_code
def yX10_lessen : MethodName := ⟨RX10, "lessen", "(III)V"⟩
abbrev cX10_thirdOfRing : ByteArray := prog_12_method_15_code
def yX10_thirdOfRing : MethodName := ⟨RX10, "thirdOfRing", "(II)I"⟩
abbrev cX10_clearRing : ByteArray := prog_12_method_16_code
def yX10_clearRing : MethodName := ⟨RX10, "clearRing", "(III)V"⟩
abbrev cX10_copied : ByteArray := prog_12_method_17_code
def yX10_copied : MethodName := ⟨RX10, "copied", "()LSungAsleep$Valley;"⟩
def RX11 : String := "SungAsleep"
def TX11 : u_T := fun k => match k with
  | 0 => ("SungAsleep", "now", "LSungAsleep$Valley;", false)
  | 1 => ("SungAsleep", "kept", "LSungAsleep$Valley;", false)
  | 2 => ("SungAsleep", "reckoner", "LSungAsleep$Reckoner;", true)
  | 3 => ("SungAsleep", "tape", "LSungAsleep$Tape;", true)
  | 4 => ("SungAsleep", "bodies", "LSungAsleep$Trace;", true)
  | 5 => ("SungAsleep", "rows", "[I", true)
  | 6 => ("SungAsleep", "rowCount", "I", false)
  | 7 => ("SungAsleep", "sheets", "[LSungAsleep$Row;", true)
  | 8 => ("SungAsleep", "shelfRows", "[LSungAsleep$Row;", true)
  | _ => ("SungAsleep", "shelfPeople", "[I", true)
def tyX11 : Nat → FieldType := fun k => match k with
  | 0 => .object "SungAsleep$Valley"
  | 1 => .object "SungAsleep$Valley"
  | 2 => .object "SungAsleep$Reckoner"
  | 3 => .object "SungAsleep$Tape"
  | 4 => .object "SungAsleep$Trace"
  | 5 => .array .int
  | 6 => .int
  | 7 => .array (.object "SungAsleep$Row")
  | 8 => .array (.object "SungAsleep$Row")
  | _ => .array .int
theorem nmX11 : ∀ a, a < 10 → ∀ b, b < 10 → a ≠ b → (TX11 a).2.1 ≠ (TX11 b).2.1 := by decide +kernel
theorem tyX11_ok : ∀ k, k < 10 → parseFieldDescriptor (TX11 k).2.2.1 = some (tyX11 k) := by decide +kernel
abbrev cX11_init : ByteArray := prog_1_method_1_code
def yX11_init : MethodName := ⟨RX11, "<init>", "()V"⟩
abbrev cX11_feed : ByteArray := prog_1_method_2_code
def yX11_feed : MethodName := ⟨RX11, "feed", "(JI)I"⟩
abbrev cX11_valley : ByteArray := prog_1_method_3_code
def yX11_valley : MethodName := ⟨RX11, "valley", "()I"⟩
abbrev cX11_person : ByteArray := prog_1_method_4_code
def yX11_person : MethodName := ⟨RX11, "person", "(II)I"⟩
abbrev cX11_personOf : ByteArray := prog_1_method_5_code
def yX11_personOf : MethodName := ⟨RX11, "personOf", "(II)I"⟩
abbrev cX11_voice : ByteArray := prog_1_method_6_code
def yX11_voice : MethodName := ⟨RX11, "voice", "(II)I"⟩
abbrev cX11_purse : ByteArray := prog_1_method_7_code
def yX11_purse : MethodName := ⟨RX11, "purse", "(II)I"⟩
abbrev cX11_turn : ByteArray := prog_1_method_8_code
def yX11_turn : MethodName := ⟨RX11, "turn", "(II)I"⟩
abbrev cX11_older : ByteArray := prog_1_method_9_code
def yX11_older : MethodName := ⟨RX11, "older", "()I"⟩
abbrev cX11_lasts : ByteArray := prog_1_method_10_code
def yX11_lasts : MethodName := ⟨RX11, "lasts", "(II)I"⟩
abbrev cX11_sing : ByteArray := prog_1_method_11_code
def yX11_sing : MethodName := ⟨RX11, "sing", "(II)I"⟩
abbrev cX11_may : ByteArray := prog_1_method_12_code
def yX11_may : MethodName := ⟨RX11, "may", "(II)I"⟩
abbrev cX11_wake : ByteArray := prog_1_method_13_code
def yX11_wake : MethodName := ⟨RX11, "wake", "(I)I"⟩
abbrev cX11_night : ByteArray := prog_1_method_14_code
def yX11_night : MethodName := ⟨RX11, "night", "(I)I"⟩
abbrev cX11_day : ByteArray := prog_1_method_15_code
def yX11_day : MethodName := ⟨RX11, "day", "()I"⟩
abbrev cX11_owed : ByteArray := prog_1_method_16_code
def yX11_owed : MethodName := ⟨RX11, "owed", "(II)I"⟩
abbrev cX11_owe : ByteArray := prog_1_method_17_code
def yX11_owe : MethodName := ⟨RX11, "owe", "(III)I"⟩
abbrev cX11_ring : ByteArray := prog_1_method_18_code
def yX11_ring : MethodName := ⟨RX11, "ring", "()I"⟩
abbrev cX11_isPair : ByteArray := prog_1_method_19_code
def yX11_isPair : MethodName := ⟨RX11, "isPair", "(II)Z"⟩
abbrev cX11_isOver : ByteArray := prog_1_method_20_code
def yX11_isOver : MethodName := ⟨RX11, "isOver", "(I)Z"⟩
abbrev cX11_least : ByteArray := prog_1_method_21_code
def yX11_least : MethodName := ⟨RX11, "least", "()I"⟩
abbrev cX11_plan : ByteArray := prog_1_method_22_code
def yX11_plan : MethodName := ⟨RX11, "plan", "(I)I"⟩
abbrev cX11_last : ByteArray := prog_1_method_23_code
def yX11_last : MethodName := ⟨RX11, "last", "()I"⟩
abbrev cX11_with : ByteArray := prog_1_method_24_code
def yX11_with : MethodName := ⟨RX11, "with", "(I)I"⟩
abbrev cX11_silent : ByteArray := prog_1_method_25_code
def yX11_silent : MethodName := ⟨RX11, "silent", "(I)I"⟩
abbrev cX11_ways : ByteArray := prog_1_method_26_code
def yX11_ways : MethodName := ⟨RX11, "ways", "()I"⟩
abbrev cX11_inTurn : ByteArray := prog_1_method_27_code
def yX11_inTurn : MethodName := ⟨RX11, "inTurn", "()I"⟩
abbrev cX11_dearest : ByteArray := prog_1_method_28_code
def yX11_dearest : MethodName := ⟨RX11, "dearest", "()I"⟩
abbrev cX11_hoarse : ByteArray := prog_1_method_29_code
def yX11_hoarse : MethodName := ⟨RX11, "hoarse", "()I"⟩
abbrev cX11_tent : ByteArray := prog_1_method_30_code
def yX11_tent : MethodName := ⟨RX11, "tent", "()I"⟩
abbrev cX11_seed : ByteArray := prog_1_method_31_code
def yX11_seed : MethodName := ⟨RX11, "seed", "(I)I"⟩
abbrev cX11_draw : ByteArray := prog_1_method_32_code
def yX11_draw : MethodName := ⟨RX11, "draw", "()I"⟩
abbrev cX11_fewestMinutes : ByteArray := prog_1_method_33_code
def yX11_fewestMinutes : MethodName := ⟨RX11, "fewestMinutes", "(III)I"⟩
abbrev cX11_prove : ByteArray := prog_1_method_34_code
def yX11_prove : MethodName := ⟨RX11, "prove", "()I"⟩
abbrev cX11_row : ByteArray := prog_1_method_35_code
def yX11_row : MethodName := ⟨RX11, "row", "(II)I"⟩
abbrev cX11_alterRow : ByteArray := prog_1_method_36_code
def yX11_alterRow : MethodName := ⟨RX11, "alterRow", "(III)I"⟩
abbrev cX11_judge : ByteArray := prog_1_method_37_code
def yX11_judge : MethodName := ⟨RX11, "judge", "()I"⟩
abbrev cX11_ages : ByteArray := prog_1_method_38_code
def yX11_ages : MethodName := ⟨RX11, "ages", "(IIII)I"⟩
abbrev cX11_isInRow : ByteArray := prog_1_method_39_code
def yX11_isInRow : MethodName := ⟨RX11, "isInRow", "(II)Z"⟩
abbrev cX11_sheet : ByteArray := prog_1_method_40_code
def yX11_sheet : MethodName := ⟨RX11, "sheet", "(III)I"⟩
abbrev cX11_put : ByteArray := prog_1_method_41_code
def yX11_put : MethodName := ⟨RX11, "put", "(III)I"⟩
abbrev cX11_item : ByteArray := prog_1_method_42_code
def yX11_item : MethodName := ⟨RX11, "item", "(III)I"⟩
abbrev cX11_shelf : ByteArray := prog_1_method_43_code
def yX11_shelf : MethodName := ⟨RX11, "shelf", "(III)I"⟩
abbrev cX11_taken : ByteArray := prog_1_method_44_code
def yX11_taken : MethodName := ⟨RX11, "taken", "(II)I"⟩
abbrev cX11_act : ByteArray := prog_1_method_45_code
def yX11_act : MethodName := ⟨RX11, "act", "(III)I"⟩
abbrev cX11_trace : ByteArray := prog_1_method_46_code
def yX11_trace : MethodName := ⟨RX11, "trace", "(I)I"⟩
abbrev cX11_many : ByteArray := prog_1_method_47_code
def yX11_many : MethodName := ⟨RX11, "many", "(I)I"⟩
abbrev cX11_isPlace : ByteArray := prog_1_method_48_code
def yX11_isPlace : MethodName := ⟨RX11, "isPlace", "(I)Z"⟩
abbrev cX11_keep : ByteArray := prog_1_method_49_code
def yX11_keep : MethodName := ⟨RX11, "keep", "()I"⟩
abbrev cX11_again : ByteArray := prog_1_method_50_code
def yX11_again : MethodName := ⟨RX11, "again", "()I"⟩
abbrev cX11_made : ByteArray := prog_1_method_51_code
def yX11_made : MethodName := ⟨RX11, "made", "(III)LSungAsleep$Sleeper;"⟩
abbrev cX11_likeness : ByteArray := prog_1_method_52_code
def yX11_likeness : MethodName := ⟨RX11, "likeness", "(LSungAsleep$Sleeper;I)LSungAsleep$Sleeper;"⟩
abbrev cX11_isOfKind : ByteArray := prog_1_method_53_code
def yX11_isOfKind : MethodName := ⟨RX11, "isOfKind", "(LSungAsleep$Sleeper;I)Z"⟩
def RX12 : String := "SungAsleepModel"
def TX12 : u_T := fun k => match k with
  | 0 => ("SungAsleepModel", "people", "I", false)
  | 1 => ("SungAsleepModel", "kinds", "[I", true)
  | 2 => ("SungAsleepModel", "ages", "[I", true)
  | 3 => ("SungAsleepModel", "voices", "[I", true)
  | 4 => ("SungAsleepModel", "purses", "[I", true)
  | 5 => ("SungAsleepModel", "lasts", "[I", true)
  | 6 => ("SungAsleepModel", "sung", "[I", true)
  | 7 => ("SungAsleepModel", "owed", "[I", true)
  | 8 => ("SungAsleepModel", "awake", "I", false)
  | 9 => ("SungAsleepModel", "minute", "I", false)
  | 10 => ("SungAsleepModel", "z", "I", false)
  | 11 => ("SungAsleepModel", "tape", "[I", true)
  | 12 => ("SungAsleepModel", "tapeMany", "I", false)
  | 13 => ("SungAsleepModel", "sort", "I", false)
  | 14 => ("SungAsleepModel", "begins", "I", false)
  | 15 => ("SungAsleepModel", "tokenEnds", "I", false)
  | 16 => ("SungAsleepModel", "word", "J", false)
  | 17 => ("SungAsleepModel", "value", "I", false)
  | 18 => ("SungAsleepModel", "good", "Z", false)
  | 19 => ("SungAsleepModel", "freshPeople", "I", false)
  | 20 => ("SungAsleepModel", "freshAwake", "I", false)
  | 21 => ("SungAsleepModel", "freshKinds", "[I", true)
  | 22 => ("SungAsleepModel", "freshAges", "[I", true)
  | 23 => ("SungAsleepModel", "freshVoices", "[I", true)
  | 24 => ("SungAsleepModel", "freshPurses", "[I", true)
  | 25 => ("SungAsleepModel", "freshOwed", "[I", true)
  | 26 => ("SungAsleepModel", "lengths", "[I", true)
  | 27 => ("SungAsleepModel", "minutes", "[I", true)
  | 28 => ("SungAsleepModel", "songs", "[I", true)
  | 29 => ("SungAsleepModel", "lastOnes", "[I", true)
  | 30 => ("SungAsleepModel", "ways", "[I", true)
  | 31 => ("SungAsleepModel", "singers", "[I", true)
  | 32 => ("SungAsleepModel", "whoms", "[I", true)
  | 33 => ("SungAsleepModel", "planned", "I", false)
  | 34 => ("SungAsleepModel", "lastAwake", "I", false)
  | 35 => ("SungAsleepModel", "rows", "[I", true)
  | 36 => ("SungAsleepModel", "rowMany", "I", false)
  | 37 => ("SungAsleepModel", "sorts", "[I", true)
  | 38 => ("SungAsleepModel", "sizes", "[I", true)
  | 39 => ("SungAsleepModel", "sheets", "[J", true)
  | 40 => ("SungAsleepModel", "held", "[I", true)
  | 41 => ("SungAsleepModel", "heldNumber", "[I", true)
  | 42 => ("SungAsleepModel", "heldSize", "[I", true)
  | 43 => ("SungAsleepModel", "kind", "I", false)
  | 44 => ("SungAsleepModel", "number", "I", false)
  | 45 => ("SungAsleepModel", "own", "I", false)
  | 46 => ("SungAsleepModel", "traced", "[I", true)
  | 47 => ("SungAsleepModel", "bodies", "I", false)
  | 48 => ("SungAsleepModel", "isParted", "Z", false)
  | 49 => ("SungAsleepModel", "isKept", "Z", false)
  | 50 => ("SungAsleepModel", "keptRow", "[I", true)
  | 51 => ("SungAsleepModel", "movedTo", "I", false)
  | _ => ("SungAsleepModel", "single", "[I", true)
def tyX12 : Nat → FieldType := fun k => match k with
  | 0 => .int
  | 1 => .array .int
  | 2 => .array .int
  | 3 => .array .int
  | 4 => .array .int
  | 5 => .array .int
  | 6 => .array .int
  | 7 => .array .int
  | 8 => .int
  | 9 => .int
  | 10 => .int
  | 11 => .array .int
  | 12 => .int
  | 13 => .int
  | 14 => .int
  | 15 => .int
  | 16 => .long
  | 17 => .int
  | 18 => .boolean
  | 19 => .int
  | 20 => .int
  | 21 => .array .int
  | 22 => .array .int
  | 23 => .array .int
  | 24 => .array .int
  | 25 => .array .int
  | 26 => .array .int
  | 27 => .array .int
  | 28 => .array .int
  | 29 => .array .int
  | 30 => .array .int
  | 31 => .array .int
  | 32 => .array .int
  | 33 => .int
  | 34 => .int
  | 35 => .array .int
  | 36 => .int
  | 37 => .array .int
  | 38 => .array .int
  | 39 => .array .long
  | 40 => .array .int
  | 41 => .array .int
  | 42 => .array .int
  | 43 => .int
  | 44 => .int
  | 45 => .int
  | 46 => .array .int
  | 47 => .int
  | 48 => .boolean
  | 49 => .boolean
  | 50 => .array .int
  | 51 => .int
  | _ => .array .int
theorem nmX12 : ∀ a, a < 53 → ∀ b, b < 53 → a ≠ b → (TX12 a).2.1 ≠ (TX12 b).2.1 := by decide +kernel
theorem tyX12_ok : ∀ k, k < 53 → parseFieldDescriptor (TX12 k).2.2.1 = some (tyX12 k) := by decide +kernel
abbrev cX12_init : ByteArray := prog_14_method_1_code
def yX12_init : MethodName := ⟨RX12, "<init>", "()V"⟩
abbrev cX12_in : ByteArray := prog_14_method_2_code
def yX12_in : MethodName := ⟨RX12, "in", "(III)Z"⟩
abbrev cX12_isPerson : ByteArray := prog_14_method_3_code
def yX12_isPerson : MethodName := ⟨RX12, "isPerson", "(I)Z"⟩
abbrev cX12_has : ByteArray := prog_14_method_4_code
def yX12_has : MethodName := ⟨RX12, "has", "(II)Z"⟩
abbrev cX12_ones : ByteArray := prog_14_method_5_code
def yX12_ones : MethodName := ⟨RX12, "ones", "(I)I"⟩
abbrev cX12_feed : ByteArray := prog_14_method_6_code
def yX12_feed : MethodName := ⟨RX12, "feed", "(JI)I"⟩
abbrev cX12_byteAt : ByteArray := prog_14_method_7_code
def yX12_byteAt : MethodName := ⟨RX12, "byteAt", "(I)I"⟩
abbrev cX12_isLetter : ByteArray := prog_14_method_8_code
def yX12_isLetter : MethodName := ⟨RX12, "isLetter", "(I)Z"⟩
abbrev cX12_isDigit : ByteArray := prog_14_method_9_code
def yX12_isDigit : MethodName := ⟨RX12, "isDigit", "(I)Z"⟩
abbrev cX12_advance : ByteArray := prog_14_method_10_code
def yX12_advance : MethodName := ⟨RX12, "advance", "()V"⟩
abbrev cX12_isWord : ByteArray := prog_14_method_11_code
def yX12_isWord : MethodName := ⟨RX12, "isWord", "(J)Z"⟩
abbrev cX12_isMark : ByteArray := prog_14_method_12_code
def yX12_isMark : MethodName := ⟨RX12, "isMark", "(I)Z"⟩
abbrev cX12_kindHere : ByteArray := prog_14_method_13_code
def yX12_kindHere : MethodName := ⟨RX12, "kindHere", "()I"⟩
abbrev cX12_wantNumber : ByteArray := prog_14_method_14_code
def yX12_wantNumber : MethodName := ⟨RX12, "wantNumber", "(II)I"⟩
abbrev cX12_wantEnd : ByteArray := prog_14_method_15_code
def yX12_wantEnd : MethodName := ⟨RX12, "wantEnd", "()V"⟩
abbrev cX12_takes : ByteArray := prog_14_method_16_code
def yX12_takes : MethodName := ⟨RX12, "takes", "(J)Z"⟩
abbrev cX12_wantPerson : ByteArray := prog_14_method_17_code
def yX12_wantPerson : MethodName := ⟨RX12, "wantPerson", "(I)V"⟩
abbrev cX12_wantOwes : ByteArray := prog_14_method_18_code
def yX12_wantOwes : MethodName := ⟨RX12, "wantOwes", "()V"⟩
abbrev cX12_wantAsleep : ByteArray := prog_14_method_19_code
def yX12_wantAsleep : MethodName := ⟨RX12, "wantAsleep", "()V"⟩
abbrev cX12_wantClause : ByteArray := prog_14_method_20_code
def yX12_wantClause : MethodName := ⟨RX12, "wantClause", "()V"⟩
abbrev cX12_valley : ByteArray := prog_14_method_21_code
def yX12_valley : MethodName := ⟨RX12, "valley", "()I"⟩
abbrev cX12_person : ByteArray := prog_14_method_22_code
def yX12_person : MethodName := ⟨RX12, "person", "(II)I"⟩
abbrev cX12_needs : ByteArray := prog_14_method_23_code
def yX12_needs : MethodName := ⟨RX12, "needs", "(I)I"⟩
abbrev cX12_personOf : ByteArray := prog_14_method_24_code
def yX12_personOf : MethodName := ⟨RX12, "personOf", "(II)I"⟩
abbrev cX12_voice : ByteArray := prog_14_method_25_code
def yX12_voice : MethodName := ⟨RX12, "voice", "(II)I"⟩
abbrev cX12_purse : ByteArray := prog_14_method_26_code
def yX12_purse : MethodName := ⟨RX12, "purse", "(II)I"⟩
abbrev cX12_turn : ByteArray := prog_14_method_27_code
def yX12_turn : MethodName := ⟨RX12, "turn", "(II)I"⟩
abbrev cX12_older : ByteArray := prog_14_method_28_code
def yX12_older : MethodName := ⟨RX12, "older", "()I"⟩
abbrev cX12_lasts : ByteArray := prog_14_method_29_code
def yX12_lasts : MethodName := ⟨RX12, "lasts", "(II)I"⟩
abbrev cX12_lengthOf : ByteArray := prog_14_method_30_code
def yX12_lengthOf : MethodName := ⟨RX12, "lengthOf", "(I)I"⟩
abbrev cX12_isAsk : ByteArray := prog_14_method_31_code
def yX12_isAsk : MethodName := ⟨RX12, "isAsk", "(II)Z"⟩
abbrev cX12_canBe : ByteArray := prog_14_method_32_code
def yX12_canBe : MethodName := ⟨RX12, "canBe", "(III)Z"⟩
abbrev cX12_may : ByteArray := prog_14_method_33_code
def yX12_may : MethodName := ⟨RX12, "may", "(II)I"⟩
abbrev cX12_owesMore : ByteArray := prog_14_method_34_code
def yX12_owesMore : MethodName := ⟨RX12, "owesMore", "(III)V"⟩
abbrev cX12_sing : ByteArray := prog_14_method_35_code
def yX12_sing : MethodName := ⟨RX12, "sing", "(II)I"⟩
abbrev cX12_wake : ByteArray := prog_14_method_36_code
def yX12_wake : MethodName := ⟨RX12, "wake", "(I)I"⟩
abbrev cX12_night : ByteArray := prog_14_method_37_code
def yX12_night : MethodName := ⟨RX12, "night", "(I)I"⟩
abbrev cX12_only : ByteArray := prog_14_method_38_code
def yX12_only : MethodName := ⟨RX12, "only", "(I)I"⟩
abbrev cX12_day : ByteArray := prog_14_method_39_code
def yX12_day : MethodName := ⟨RX12, "day", "()I"⟩
abbrev cX12_owed : ByteArray := prog_14_method_40_code
def yX12_owed : MethodName := ⟨RX12, "owed", "(II)I"⟩
abbrev cX12_owe : ByteArray := prog_14_method_41_code
def yX12_owe : MethodName := ⟨RX12, "owe", "(III)I"⟩
abbrev cX12_round : ByteArray := prog_14_method_42_code
def yX12_round : MethodName := ⟨RX12, "round", "(III)I"⟩
abbrev cX12_ring : ByteArray := prog_14_method_43_code
def yX12_ring : MethodName := ⟨RX12, "ring", "()I"⟩
abbrev cX12_findLengths : ByteArray := prog_14_method_44_code
def yX12_findLengths : MethodName := ⟨RX12, "findLengths", "()V"⟩
abbrev cX12_costOf : ByteArray := prog_14_method_45_code
def yX12_costOf : MethodName := ⟨RX12, "costOf", "(II)I"⟩
abbrev cX12_fewest : ByteArray := prog_14_method_46_code
def yX12_fewest : MethodName := ⟨RX12, "fewest", "(II)I"⟩
abbrev cX12_findLeast : ByteArray := prog_14_method_47_code
def yX12_findLeast : MethodName := ⟨RX12, "findLeast", "(II)V"⟩
abbrev cX12_told : ByteArray := prog_14_method_48_code
def yX12_told : MethodName := ⟨RX12, "told", "(I)I"⟩
abbrev cX12_least : ByteArray := prog_14_method_49_code
def yX12_least : MethodName := ⟨RX12, "least", "()I"⟩
abbrev cX12_with : ByteArray := prog_14_method_50_code
def yX12_with : MethodName := ⟨RX12, "with", "(I)I"⟩
abbrev cX12_silent : ByteArray := prog_14_method_51_code
def yX12_silent : MethodName := ⟨RX12, "silent", "(I)I"⟩
abbrev cX12_isBest : ByteArray := prog_14_method_52_code
def yX12_isBest : MethodName := ⟨RX12, "isBest", "(III)Z"⟩
abbrev cX12_findMore : ByteArray := prog_14_method_53_code
def yX12_findMore : MethodName := ⟨RX12, "findMore", "(I)V"⟩
abbrev cX12_findAll : ByteArray := prog_14_method_54_code
def yX12_findAll : MethodName := ⟨RX12, "findAll", "()V"⟩
abbrev cX12_isFirst : ByteArray := prog_14_method_55_code
def yX12_isFirst : MethodName := ⟨RX12, "isFirst", "(III)Z"⟩
abbrev cX12_noteFirst : ByteArray := prog_14_method_56_code
def yX12_noteFirst : MethodName := ⟨RX12, "noteFirst", "(I)V"⟩
abbrev cX12_findPlan : ByteArray := prog_14_method_57_code
def yX12_findPlan : MethodName := ⟨RX12, "findPlan", "()Z"⟩
abbrev cX12_plan : ByteArray := prog_14_method_58_code
def yX12_plan : MethodName := ⟨RX12, "plan", "(I)I"⟩
abbrev cX12_last : ByteArray := prog_14_method_59_code
def yX12_last : MethodName := ⟨RX12, "last", "()I"⟩
abbrev cX12_ways : ByteArray := prog_14_method_60_code
def yX12_ways : MethodName := ⟨RX12, "ways", "()I"⟩
abbrev cX12_inTurn : ByteArray := prog_14_method_61_code
def yX12_inTurn : MethodName := ⟨RX12, "inTurn", "()I"⟩
abbrev cX12_dearest : ByteArray := prog_14_method_62_code
def yX12_dearest : MethodName := ⟨RX12, "dearest", "()I"⟩
abbrev cX12_hoarse : ByteArray := prog_14_method_63_code
def yX12_hoarse : MethodName := ⟨RX12, "hoarse", "()I"⟩
abbrev cX12_tent : ByteArray := prog_14_method_64_code
def yX12_tent : MethodName := ⟨RX12, "tent", "()I"⟩
abbrev cX12_seed : ByteArray := prog_14_method_65_code
def yX12_seed : MethodName := ⟨RX12, "seed", "(I)I"⟩
abbrev cX12_draw : ByteArray := prog_14_method_66_code
def yX12_draw : MethodName := ⟨RX12, "draw", "()I"⟩
abbrev cX12_prove : ByteArray := prog_14_method_67_code
def yX12_prove : MethodName := ⟨RX12, "prove", "()I"⟩
abbrev cX12_isRow : ByteArray := prog_14_method_68_code
def yX12_isRow : MethodName := ⟨RX12, "isRow", "(II)Z"⟩
abbrev cX12_row : ByteArray := prog_14_method_69_code
def yX12_row : MethodName := ⟨RX12, "row", "(II)I"⟩
abbrev cX12_alterRow : ByteArray := prog_14_method_70_code
def yX12_alterRow : MethodName := ⟨RX12, "alterRow", "(III)I"⟩
abbrev cX12_judge : ByteArray := prog_14_method_71_code
def yX12_judge : MethodName := ⟨RX12, "judge", "()I"⟩
abbrev cX12_ages : ByteArray := prog_14_method_72_code
def yX12_ages : MethodName := ⟨RX12, "ages", "(IIII)I"⟩
abbrev cX12_isShelf : ByteArray := prog_14_method_73_code
def yX12_isShelf : MethodName := ⟨RX12, "isShelf", "(I)Z"⟩
abbrev cX12_sheet : ByteArray := prog_14_method_74_code
def yX12_sheet : MethodName := ⟨RX12, "sheet", "(III)I"⟩
abbrev cX12_put : ByteArray := prog_14_method_75_code
def yX12_put : MethodName := ⟨RX12, "put", "(III)I"⟩
abbrev cX12_lacksSort : ByteArray := prog_14_method_76_code
def yX12_lacksSort : MethodName := ⟨RX12, "lacksSort", "(II)I"⟩
abbrev cX12_item : ByteArray := prog_14_method_77_code
def yX12_item : MethodName := ⟨RX12, "item", "(III)I"⟩
abbrev cX12_isHeld : ByteArray := prog_14_method_78_code
def yX12_isHeld : MethodName := ⟨RX12, "isHeld", "(II)Z"⟩
abbrev cX12_shelf : ByteArray := prog_14_method_79_code
def yX12_shelf : MethodName := ⟨RX12, "shelf", "(III)I"⟩
abbrev cX12_kindOn : ByteArray := prog_14_method_80_code
def yX12_kindOn : MethodName := ⟨RX12, "kindOn", "(I)I"⟩
abbrev cX12_isUnder : ByteArray := prog_14_method_81_code
def yX12_isUnder : MethodName := ⟨RX12, "isUnder", "(II)Z"⟩
abbrev cX12_taken : ByteArray := prog_14_method_82_code
def yX12_taken : MethodName := ⟨RX12, "taken", "(II)I"⟩
abbrev cX12_ran : ByteArray := prog_14_method_83_code
def yX12_ran : MethodName := ⟨RX12, "ran", "(I)V"⟩
abbrev cX12_plainSings : ByteArray := prog_14_method_84_code
def yX12_plainSings : MethodName := ⟨RX12, "plainSings", "(I)I"⟩
abbrev cX12_oldSings : ByteArray := prog_14_method_85_code
def yX12_oldSings : MethodName := ⟨RX12, "oldSings", "(I)I"⟩
abbrev cX12_singsIt : ByteArray := prog_14_method_86_code
def yX12_singsIt : MethodName := ⟨RX12, "singsIt", "(I)I"⟩
abbrev cX12_plainNeeds : ByteArray := prog_14_method_87_code
def yX12_plainNeeds : MethodName := ⟨RX12, "plainNeeds", "(I)I"⟩
abbrev cX12_needsIt : ByteArray := prog_14_method_88_code
def yX12_needsIt : MethodName := ⟨RX12, "needsIt", "(I)I"⟩
abbrev cX12_plainShares : ByteArray := prog_14_method_89_code
def yX12_plainShares : MethodName := ⟨RX12, "plainShares", "(I)I"⟩
abbrev cX12_sharesIt : ByteArray := prog_14_method_90_code
def yX12_sharesIt : MethodName := ⟨RX12, "sharesIt", "(I)I"⟩
abbrev cX12_plainTells : ByteArray := prog_14_method_91_code
def yX12_plainTells : MethodName := ⟨RX12, "plainTells", "(I)I"⟩
abbrev cX12_tellsIt : ByteArray := prog_14_method_92_code
def yX12_tellsIt : MethodName := ⟨RX12, "tellsIt", "(I)I"⟩
abbrev cX12_act : ByteArray := prog_14_method_93_code
def yX12_act : MethodName := ⟨RX12, "act", "(III)I"⟩
abbrev cX12_trace : ByteArray := prog_14_method_94_code
def yX12_trace : MethodName := ⟨RX12, "trace", "(I)I"⟩
abbrev cX12_many : ByteArray := prog_14_method_95_code
def yX12_many : MethodName := ⟨RX12, "many", "(I)I"⟩
abbrev cX12_moveRow : ByteArray := prog_14_method_96_code
def yX12_moveRow : MethodName := ⟨RX12, "moveRow", "([IIZ)V"⟩
abbrev cX12_moveAll : ByteArray := prog_14_method_97_code
def yX12_moveAll : MethodName := ⟨RX12, "moveAll", "(Z)V"⟩
abbrev cX12_keep : ByteArray := prog_14_method_98_code
def yX12_keep : MethodName := ⟨RX12, "keep", "()I"⟩
abbrev cX12_again : ByteArray := prog_14_method_99_code
def yX12_again : MethodName := ⟨RX12, "again", "()I"⟩
def RJ6 : String := "java/lang/Integer"
def TJ6 : u_T := fun k => match k with
  | _ => ("", "", "", false)
def tyJ6 : Nat → FieldType := fun k => match k with
  | _ => .int
theorem nmJ6 : ∀ a, a < 0 → ∀ b, b < 0 → a ≠ b → (TJ6 a).2.1 ≠ (TJ6 b).2.1 := by decide +kernel
theorem tyJ6_ok : ∀ k, k < 0 → parseFieldDescriptor (TJ6 k).2.2.1 = some (tyJ6 k) := by decide +kernel
abbrev cJ6_numberOfTrailingZeros_0f7a4 : ByteArray := prog_15_method_48_code
def yJ6_numberOfTrailingZeros_0f7a4 : MethodName := ⟨RJ6, "numberOfTrailingZeros", "(I)I"⟩
abbrev cJ6_bitCount_0f7a4 : ByteArray := prog_15_method_49_code
def yJ6_bitCount_0f7a4 : MethodName := ⟨RJ6, "bitCount", "(I)I"⟩
def RJ9 : String := "java/lang/Math"
def TJ9 : u_T := fun k => match k with
  | _ => ("", "", "", false)
def tyJ9 : Nat → FieldType := fun k => match k with
  | _ => .int
theorem nmJ9 : ∀ a, a < 0 → ∀ b, b < 0 → a ≠ b → (TJ9 a).2.1 ≠ (TJ9 b).2.1 := by decide +kernel
theorem tyJ9_ok : ∀ k, k < 0 → parseFieldDescriptor (TJ9 k).2.2.1 = some (tyJ9 k) := by decide +kernel
abbrev cJ9_max_7cf53 : ByteArray := prog_16_method_65_code
def yJ9_max_7cf53 : MethodName := ⟨RJ9, "max", "(II)I"⟩
abbrev cJ9_max_f86c9 : ByteArray := prog_16_method_66_code
def yJ9_max_f86c9 : MethodName := ⟨RJ9, "max", "(JJ)J"⟩
abbrev cJ9_min_7cf53 : ByteArray := prog_16_method_69_code
def yJ9_min_7cf53 : MethodName := ⟨RJ9, "min", "(II)I"⟩
abbrev cJ9_min_f86c9 : ByteArray := prog_16_method_70_code
def yJ9_min_f86c9 : MethodName := ⟨RJ9, "min", "(JJ)J"⟩
def RJ0 : String := "java/lang/String"
def TJ0 : u_T := fun k => match k with
  | _ => ("", "", "", false)
def tyJ0 : Nat → FieldType := fun k => match k with
  | _ => .int
theorem nmJ0 : ∀ a, a < 0 → ∀ b, b < 0 → a ≠ b → (TJ0 a).2.1 ≠ (TJ0 b).2.1 := by decide +kernel
theorem tyJ0_ok : ∀ k, k < 0 → parseFieldDescriptor (TJ0 k).2.2.1 = some (tyJ0 k) := by decide +kernel
abbrev cJ0_length_8abf5 : ByteArray := prog_17_method_54_code
def yJ0_length_8abf5 : MethodName := ⟨RJ0, "length", "()I"⟩
abbrev cJ0_charAt_5068e : ByteArray := prog_17_method_56_code
def yJ0_charAt_5068e : MethodName := ⟨RJ0, "charAt", "(I)C"⟩
abbrev cJ0_coder_7d493 : ByteArray := prog_17_method_152_code
def yJ0_coder_7d493 : MethodName := ⟨RJ0, "coder", "()B"⟩
abbrev cJ0_isLatin1_aae02 : ByteArray := prog_17_method_154_code
def yJ0_isLatin1_aae02 : MethodName := ⟨RJ0, "isLatin1", "()Z"⟩
abbrev cJ0_checkIndex_df160 : ByteArray := prog_17_method_155_code
def yJ0_checkIndex_df160 : MethodName := ⟨RJ0, "checkIndex", "(II)V"⟩
def RJ1 : String := "java/lang/StringLatin1"
def TJ1 : u_T := fun k => match k with
  | _ => ("", "", "", false)
def tyJ1 : Nat → FieldType := fun k => match k with
  | _ => .int
theorem nmJ1 : ∀ a, a < 0 → ∀ b, b < 0 → a ≠ b → (TJ1 a).2.1 ≠ (TJ1 b).2.1 := by decide +kernel
theorem tyJ1_ok : ∀ k, k < 0 → parseFieldDescriptor (TJ1 k).2.2.1 = some (tyJ1 k) := by decide +kernel
abbrev cJ1_charAt_3b067 : ByteArray := prog_18_method_2_code
def yJ1_charAt_3b067 : MethodName := ⟨RJ1, "charAt", "([BI)C"⟩
def RJ2 : String := "java/lang/StringUTF16"
def TJ2 : u_T := fun k => match k with
  | _ => ("", "", "", false)
def tyJ2 : Nat → FieldType := fun k => match k with
  | _ => .int
theorem nmJ2 : ∀ a, a < 0 → ∀ b, b < 0 → a ≠ b → (TJ2 a).2.1 ≠ (TJ2 b).2.1 := by decide +kernel
theorem tyJ2_ok : ∀ k, k < 0 → parseFieldDescriptor (TJ2 k).2.2.1 = some (tyJ2 k) := by decide +kernel
abbrev cJ2_getChar_3b067 : ByteArray := prog_19_method_5_code
def yJ2_getChar_3b067 : MethodName := ⟨RJ2, "getChar", "([BI)C"⟩
abbrev cJ2_length_9d52b : ByteArray := prog_19_method_6_code
def yJ2_length_9d52b : MethodName := ⟨RJ2, "length", "([B)I"⟩
abbrev cJ2_charAt_3b067 : ByteArray := prog_19_method_83_code
def yJ2_charAt_3b067 : MethodName := ⟨RJ2, "charAt", "([BI)C"⟩
abbrev cJ2_checkIndex_2214a : ByteArray := prog_19_method_91_code
def yJ2_checkIndex_2214a : MethodName := ⟨RJ2, "checkIndex", "(I[B)V"⟩
def RJ10 : String := "java/lang/System"
def TJ10 : u_T := fun k => match k with
  | _ => ("", "", "", false)
def tyJ10 : Nat → FieldType := fun k => match k with
  | _ => .int
theorem nmJ10 : ∀ a, a < 0 → ∀ b, b < 0 → a ≠ b → (TJ10 a).2.1 ≠ (TJ10 b).2.1 := by decide +kernel
theorem tyJ10_ok : ∀ k, k < 0 → parseFieldDescriptor (TJ10 k).2.2.1 = some (tyJ10 k) := by decide +kernel
def RJ3 : String := "jdk/internal/util/Preconditions"
def TJ3 : u_T := fun k => match k with
  | _ => ("", "", "", false)
def tyJ3 : Nat → FieldType := fun k => match k with
  | _ => .int
theorem nmJ3 : ∀ a, a < 0 → ∀ b, b < 0 → a ≠ b → (TJ3 a).2.1 ≠ (TJ3 b).2.1 := by decide +kernel
theorem tyJ3_ok : ∀ k, k < 0 → parseFieldDescriptor (TJ3 k).2.2.1 = some (tyJ3 k) := by decide +kernel
abbrev cJ3_checkIndex_8e157 : ByteArray := prog_21_method_11_code
def yJ3_checkIndex_8e157 : MethodName := ⟨RJ3, "checkIndex", "(IILjava/util/function/BiFunction;)I"⟩
def RL : String := "SungAsleepLaw"
abbrev cL_law : ByteArray := code
def yL_law : MethodName := ⟨RL, "law", "([I)Z"⟩
abbrev vwCl : List vw_C := [(RX0, TX0, 7), (RX1, TX1, 7), (RX2, TX2, 7), (RX3, TX3, 15), (RX4, TX4, 7), (RX5, TX5, 2), (RX6, TX6, 7), (RX7, TX7, 4), (RX8, TX8, 3), (RX9, TX9, 7), (RX10, TX10, 5), (RX11, TX11, 10), (RX12, TX12, 53)]
