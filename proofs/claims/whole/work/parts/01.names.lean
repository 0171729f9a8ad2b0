-- ===== PART A: goes FIRST, ahead of the names: the tables' words, and 'selects' of the private methods out of them =====
/-- a private method of a class that the tables say can be made, by its rows of tables_1 -/
def lw_okq (q : MethodName × Nat) : Prop := (q.1.cls ≠ "java/lang/invoke/MethodHandle" ∧ q.1.cls ≠ "java/lang/invoke/VarHandle") ∧ Cond.instantiable q.1.cls q.2 ∈ tables_1 ∧ Cond.privateMethod q.1 ∈ tables_1 ∧ Cond.instanceMethod q.1 ∈ tables_1
theorem lw_p0 : lw_okq (⟨"DeafBells", "toldOfTower", "(III)Z"⟩, 7) := ⟨⟨by decide +kernel, by decide +kernel⟩, List.mem_of_getElem? (i := 24) (by decide +kernel), List.mem_of_getElem? (i := 471) (by decide +kernel), List.mem_of_getElem? (i := 472) (by decide +kernel)⟩
theorem lw_p1 : lw_okq (⟨"DeafBells", "toldOfRinger", "(III)Z"⟩, 7) := ⟨⟨by decide +kernel, by decide +kernel⟩, List.mem_of_getElem? (i := 24) (by decide +kernel), List.mem_of_getElem? (i := 475) (by decide +kernel), List.mem_of_getElem? (i := 476) (by decide +kernel)⟩
theorem lw_p2 : lw_okq (⟨"DeafBells$Ringing", "fillValues", "(II)V"⟩, 4) := ⟨⟨by decide +kernel, by decide +kernel⟩, List.mem_of_getElem? (i := 358) (by decide +kernel), List.mem_of_getElem? (i := 525) (by decide +kernel), List.mem_of_getElem? (i := 526) (by decide +kernel)⟩
theorem lw_p3 : lw_okq (⟨"DeafBells$Law", "reckon", "(II[I)I"⟩, 8) := ⟨⟨by decide +kernel, by decide +kernel⟩, List.mem_of_getElem? (i := 149) (by decide +kernel), List.mem_of_getElem? (i := 539) (by decide +kernel), List.mem_of_getElem? (i := 540) (by decide +kernel)⟩
theorem lw_p4 : lw_okq (⟨"DeafBells$Ringing", "usual", "(II)I"⟩, 4) := ⟨⟨by decide +kernel, by decide +kernel⟩, List.mem_of_getElem? (i := 358) (by decide +kernel), List.mem_of_getElem? (i := 550) (by decide +kernel), List.mem_of_getElem? (i := 551) (by decide +kernel)⟩
theorem lw_p5 : lw_okq (⟨"DeafBells$Ringing", "happen", "()V"⟩, 4) := ⟨⟨by decide +kernel, by decide +kernel⟩, List.mem_of_getElem? (i := 358) (by decide +kernel), List.mem_of_getElem? (i := 583) (by decide +kernel), List.mem_of_getElem? (i := 584) (by decide +kernel)⟩
theorem lw_p6 : lw_okq (⟨"DeafBells$Ringing", "happenOne", "(II)V"⟩, 4) := ⟨⟨by decide +kernel, by decide +kernel⟩, List.mem_of_getElem? (i := 358) (by decide +kernel), List.mem_of_getElem? (i := 591) (by decide +kernel), List.mem_of_getElem? (i := 592) (by decide +kernel)⟩
theorem lw_p7 : lw_okq (⟨"DeafBells$Ringing", "pullAll", "(Z)I"⟩, 4) := ⟨⟨by decide +kernel, by decide +kernel⟩, List.mem_of_getElem? (i := 358) (by decide +kernel), List.mem_of_getElem? (i := 596) (by decide +kernel), List.mem_of_getElem? (i := 597) (by decide +kernel)⟩
theorem lw_p8 : lw_okq (⟨"DeafBells$Ringing", "grow", "(I)V"⟩, 4) := ⟨⟨by decide +kernel, by decide +kernel⟩, List.mem_of_getElem? (i := 358) (by decide +kernel), List.mem_of_getElem? (i := 618) (by decide +kernel), List.mem_of_getElem? (i := 619) (by decide +kernel)⟩
theorem lw_p9 : lw_okq (⟨"DeafBells$Reader", "split", "()V"⟩, 12) := ⟨⟨by decide +kernel, by decide +kernel⟩, List.mem_of_getElem? (i := 309) (by decide +kernel), List.mem_of_getElem? (i := 643) (by decide +kernel), List.mem_of_getElem? (i := 644) (by decide +kernel)⟩
theorem lw_p10 : lw_okq (⟨"DeafBells$Reader", "runFrom", "(I)I"⟩, 12) := ⟨⟨by decide +kernel, by decide +kernel⟩, List.mem_of_getElem? (i := 309) (by decide +kernel), List.mem_of_getElem? (i := 647) (by decide +kernel), List.mem_of_getElem? (i := 648) (by decide +kernel)⟩
theorem lw_p11 : lw_okq (⟨"DeafBells$Reader", "tokenKind", "(II)I"⟩, 12) := ⟨⟨by decide +kernel, by decide +kernel⟩, List.mem_of_getElem? (i := 309) (by decide +kernel), List.mem_of_getElem? (i := 660) (by decide +kernel), List.mem_of_getElem? (i := 661) (by decide +kernel)⟩
theorem lw_p12 : lw_okq (⟨"DeafBells$Reader", "wordKind", "(II)I"⟩, 12) := ⟨⟨by decide +kernel, by decide +kernel⟩, List.mem_of_getElem? (i := 309) (by decide +kernel), List.mem_of_getElem? (i := 664) (by decide +kernel), List.mem_of_getElem? (i := 665) (by decide +kernel)⟩
theorem lw_p13 : lw_okq (⟨"DeafBells$Reader", "numberKind", "(II)I"⟩, 12) := ⟨⟨by decide +kernel, by decide +kernel⟩, List.mem_of_getElem? (i := 309) (by decide +kernel), List.mem_of_getElem? (i := 717) (by decide +kernel), List.mem_of_getElem? (i := 718) (by decide +kernel)⟩
theorem lw_p14 : lw_okq (⟨"DeafBells$Reader", "addToken", "(II)V"⟩, 12) := ⟨⟨by decide +kernel, by decide +kernel⟩, List.mem_of_getElem? (i := 309) (by decide +kernel), List.mem_of_getElem? (i := 777) (by decide +kernel), List.mem_of_getElem? (i := 778) (by decide +kernel)⟩
theorem lw_p15 : lw_okq (⟨"DeafBells$Reader", "clearDraft", "()V"⟩, 12) := ⟨⟨by decide +kernel, by decide +kernel⟩, List.mem_of_getElem? (i := 309) (by decide +kernel), List.mem_of_getElem? (i := 782) (by decide +kernel), List.mem_of_getElem? (i := 783) (by decide +kernel)⟩
def lw_privs_1 : List (MethodName × Nat) := [(⟨"DeafBells", "toldOfTower", "(III)Z"⟩, 7), (⟨"DeafBells", "toldOfRinger", "(III)Z"⟩, 7), (⟨"DeafBells$Ringing", "fillValues", "(II)V"⟩, 4), (⟨"DeafBells$Law", "reckon", "(II[I)I"⟩, 8), (⟨"DeafBells$Ringing", "usual", "(II)I"⟩, 4), (⟨"DeafBells$Ringing", "happen", "()V"⟩, 4), (⟨"DeafBells$Ringing", "happenOne", "(II)V"⟩, 4), (⟨"DeafBells$Ringing", "pullAll", "(Z)I"⟩, 4), (⟨"DeafBells$Ringing", "grow", "(I)V"⟩, 4), (⟨"DeafBells$Reader", "split", "()V"⟩, 12), (⟨"DeafBells$Reader", "runFrom", "(I)I"⟩, 12), (⟨"DeafBells$Reader", "tokenKind", "(II)I"⟩, 12), (⟨"DeafBells$Reader", "wordKind", "(II)I"⟩, 12), (⟨"DeafBells$Reader", "numberKind", "(II)I"⟩, 12), (⟨"DeafBells$Reader", "addToken", "(II)V"⟩, 12), (⟨"DeafBells$Reader", "clearDraft", "()V"⟩, 12)]
theorem lw_r1 : ∀ q ∈ lw_privs_1, lw_okq q := List.forall_mem_cons.mpr ⟨lw_p0, List.forall_mem_cons.mpr ⟨lw_p1, List.forall_mem_cons.mpr ⟨lw_p2, List.forall_mem_cons.mpr ⟨lw_p3, List.forall_mem_cons.mpr ⟨lw_p4, List.forall_mem_cons.mpr ⟨lw_p5, List.forall_mem_cons.mpr ⟨lw_p6, List.forall_mem_cons.mpr ⟨lw_p7, List.forall_mem_cons.mpr ⟨lw_p8, List.forall_mem_cons.mpr ⟨lw_p9, List.forall_mem_cons.mpr ⟨lw_p10, List.forall_mem_cons.mpr ⟨lw_p11, List.forall_mem_cons.mpr ⟨lw_p12, List.forall_mem_cons.mpr ⟨lw_p13, List.forall_mem_cons.mpr ⟨lw_p14, List.forall_mem_cons.mpr ⟨lw_p15, fun _ h => absurd h List.not_mem_nil⟩⟩⟩⟩⟩⟩⟩⟩⟩⟩⟩⟩⟩⟩⟩⟩
theorem lw_p16 : lw_okq (⟨"DeafBells$Reader", "kind", "()I"⟩, 12) := ⟨⟨by decide +kernel, by decide +kernel⟩, List.mem_of_getElem? (i := 309) (by decide +kernel), List.mem_of_getElem? (i := 794) (by decide +kernel), List.mem_of_getElem? (i := 795) (by decide +kernel)⟩
theorem lw_p17 : lw_okq (⟨"DeafBells$Reader", "mayBegin", "(I)Z"⟩, 12) := ⟨⟨by decide +kernel, by decide +kernel⟩, List.mem_of_getElem? (i := 309) (by decide +kernel), List.mem_of_getElem? (i := 798) (by decide +kernel), List.mem_of_getElem? (i := 799) (by decide +kernel)⟩
theorem lw_p18 : lw_okq (⟨"DeafBells$Reader", "refuse", "(I)Z"⟩, 12) := ⟨⟨by decide +kernel, by decide +kernel⟩, List.mem_of_getElem? (i := 309) (by decide +kernel), List.mem_of_getElem? (i := 802) (by decide +kernel), List.mem_of_getElem? (i := 803) (by decide +kernel)⟩
theorem lw_p19 : lw_okq (⟨"DeafBells$Reader", "readLaw", "()Z"⟩, 12) := ⟨⟨by decide +kernel, by decide +kernel⟩, List.mem_of_getElem? (i := 309) (by decide +kernel), List.mem_of_getElem? (i := 806) (by decide +kernel), List.mem_of_getElem? (i := 807) (by decide +kernel)⟩
theorem lw_p20 : lw_okq (⟨"DeafBells$Reader", "readNumber", "()Z"⟩, 12) := ⟨⟨by decide +kernel, by decide +kernel⟩, List.mem_of_getElem? (i := 309) (by decide +kernel), List.mem_of_getElem? (i := 814) (by decide +kernel), List.mem_of_getElem? (i := 815) (by decide +kernel)⟩
theorem lw_p21 : lw_okq (⟨"DeafBells$Reader", "readUnit", "()Z"⟩, 12) := ⟨⟨by decide +kernel, by decide +kernel⟩, List.mem_of_getElem? (i := 309) (by decide +kernel), List.mem_of_getElem? (i := 818) (by decide +kernel), List.mem_of_getElem? (i := 819) (by decide +kernel)⟩
theorem lw_p22 : lw_okq (⟨"DeafBells$Reader", "takeNumber", "(II)Z"⟩, 12) := ⟨⟨by decide +kernel, by decide +kernel⟩, List.mem_of_getElem? (i := 309) (by decide +kernel), List.mem_of_getElem? (i := 826) (by decide +kernel), List.mem_of_getElem? (i := 827) (by decide +kernel)⟩
theorem lw_p23 : lw_okq (⟨"DeafBells$Reader", "readTruth", "(I)Z"⟩, 12) := ⟨⟨by decide +kernel, by decide +kernel⟩, List.mem_of_getElem? (i := 309) (by decide +kernel), List.mem_of_getElem? (i := 835) (by decide +kernel), List.mem_of_getElem? (i := 836) (by decide +kernel)⟩
theorem lw_p24 : lw_okq (⟨"DeafBells$Reader", "takeNots", "(I)I"⟩, 12) := ⟨⟨by decide +kernel, by decide +kernel⟩, List.mem_of_getElem? (i := 309) (by decide +kernel), List.mem_of_getElem? (i := 839) (by decide +kernel), List.mem_of_getElem? (i := 840) (by decide +kernel)⟩
theorem lw_p25 : lw_okq (⟨"DeafBells$Reader", "readInner", "(I)Z"⟩, 12) := ⟨⟨by decide +kernel, by decide +kernel⟩, List.mem_of_getElem? (i := 309) (by decide +kernel), List.mem_of_getElem? (i := 843) (by decide +kernel), List.mem_of_getElem? (i := 844) (by decide +kernel)⟩
theorem lw_p26 : lw_okq (⟨"DeafBells$Reader", "take", "(I)Z"⟩, 12) := ⟨⟨by decide +kernel, by decide +kernel⟩, List.mem_of_getElem? (i := 309) (by decide +kernel), List.mem_of_getElem? (i := 847) (by decide +kernel), List.mem_of_getElem? (i := 848) (by decide +kernel)⟩
theorem lw_p27 : lw_okq (⟨"DeafBells$Reader", "readComparison", "()Z"⟩, 12) := ⟨⟨by decide +kernel, by decide +kernel⟩, List.mem_of_getElem? (i := 309) (by decide +kernel), List.mem_of_getElem? (i := 851) (by decide +kernel), List.mem_of_getElem? (i := 852) (by decide +kernel)⟩
theorem lw_p28 : lw_okq (⟨"DeafBells$Reader", "readRope", "()Z"⟩, 12) := ⟨⟨by decide +kernel, by decide +kernel⟩, List.mem_of_getElem? (i := 309) (by decide +kernel), List.mem_of_getElem? (i := 859) (by decide +kernel), List.mem_of_getElem? (i := 860) (by decide +kernel)⟩
theorem lw_p29 : lw_okq (⟨"DeafBells$Reader", "readDay", "()Z"⟩, 12) := ⟨⟨by decide +kernel, by decide +kernel⟩, List.mem_of_getElem? (i := 309) (by decide +kernel), List.mem_of_getElem? (i := 867) (by decide +kernel), List.mem_of_getElem? (i := 868) (by decide +kernel)⟩
theorem lw_p30 : lw_okq (⟨"DeafBells$Reader", "readChange", "()Z"⟩, 12) := ⟨⟨by decide +kernel, by decide +kernel⟩, List.mem_of_getElem? (i := 309) (by decide +kernel), List.mem_of_getElem? (i := 871) (by decide +kernel), List.mem_of_getElem? (i := 872) (by decide +kernel)⟩
theorem lw_p31 : lw_okq (⟨"DeafBells$Puzzles", "startRounds", "()V"⟩, 10) := ⟨⟨by decide +kernel, by decide +kernel⟩, List.mem_of_getElem? (i := 382) (by decide +kernel), List.mem_of_getElem? (i := 935) (by decide +kernel), List.mem_of_getElem? (i := 936) (by decide +kernel)⟩
def lw_privs_2 : List (MethodName × Nat) := [(⟨"DeafBells$Reader", "kind", "()I"⟩, 12), (⟨"DeafBells$Reader", "mayBegin", "(I)Z"⟩, 12), (⟨"DeafBells$Reader", "refuse", "(I)Z"⟩, 12), (⟨"DeafBells$Reader", "readLaw", "()Z"⟩, 12), (⟨"DeafBells$Reader", "readNumber", "()Z"⟩, 12), (⟨"DeafBells$Reader", "readUnit", "()Z"⟩, 12), (⟨"DeafBells$Reader", "takeNumber", "(II)Z"⟩, 12), (⟨"DeafBells$Reader", "readTruth", "(I)Z"⟩, 12), (⟨"DeafBells$Reader", "takeNots", "(I)I"⟩, 12), (⟨"DeafBells$Reader", "readInner", "(I)Z"⟩, 12), (⟨"DeafBells$Reader", "take", "(I)Z"⟩, 12), (⟨"DeafBells$Reader", "readComparison", "()Z"⟩, 12), (⟨"DeafBells$Reader", "readRope", "()Z"⟩, 12), (⟨"DeafBells$Reader", "readDay", "()Z"⟩, 12), (⟨"DeafBells$Reader", "readChange", "()Z"⟩, 12), (⟨"DeafBells$Puzzles", "startRounds", "()V"⟩, 10)]
theorem lw_r2 : ∀ q ∈ lw_privs_2, lw_okq q := List.forall_mem_cons.mpr ⟨lw_p16, List.forall_mem_cons.mpr ⟨lw_p17, List.forall_mem_cons.mpr ⟨lw_p18, List.forall_mem_cons.mpr ⟨lw_p19, List.forall_mem_cons.mpr ⟨lw_p20, List.forall_mem_cons.mpr ⟨lw_p21, List.forall_mem_cons.mpr ⟨lw_p22, List.forall_mem_cons.mpr ⟨lw_p23, List.forall_mem_cons.mpr ⟨lw_p24, List.forall_mem_cons.mpr ⟨lw_p25, List.forall_mem_cons.mpr ⟨lw_p26, List.forall_mem_cons.mpr ⟨lw_p27, List.forall_mem_cons.mpr ⟨lw_p28, List.forall_mem_cons.mpr ⟨lw_p29, List.forall_mem_cons.mpr ⟨lw_p30, List.forall_mem_cons.mpr ⟨lw_p31, fun _ h => absurd h List.not_mem_nil⟩⟩⟩⟩⟩⟩⟩⟩⟩⟩⟩⟩⟩⟩⟩⟩
theorem lw_p32 : lw_okq (⟨"DeafBells$Puzzles", "rowAsNumber", "()I"⟩, 10) := ⟨⟨by decide +kernel, by decide +kernel⟩, List.mem_of_getElem? (i := 382) (by decide +kernel), List.mem_of_getElem? (i := 939) (by decide +kernel), List.mem_of_getElem? (i := 940) (by decide +kernel)⟩
theorem lw_p33 : lw_okq (⟨"DeafBells$Puzzles", "change", "(II)V"⟩, 10) := ⟨⟨by decide +kernel, by decide +kernel⟩, List.mem_of_getElem? (i := 382) (by decide +kernel), List.mem_of_getElem? (i := 943) (by decide +kernel), List.mem_of_getElem? (i := 944) (by decide +kernel)⟩
theorem lw_p34 : lw_okq (⟨"DeafBells$Puzzles", "ringsAt", "(II)Z"⟩, 10) := ⟨⟨by decide +kernel, by decide +kernel⟩, List.mem_of_getElem? (i := 382) (by decide +kernel), List.mem_of_getElem? (i := 1003) (by decide +kernel), List.mem_of_getElem? (i := 1004) (by decide +kernel)⟩
theorem lw_p35 : lw_okq (⟨"DeafBells$Puzzles", "firstBellFor", "(III)I"⟩, 10) := ⟨⟨by decide +kernel, by decide +kernel⟩, List.mem_of_getElem? (i := 382) (by decide +kernel), List.mem_of_getElem? (i := 1037) (by decide +kernel), List.mem_of_getElem? (i := 1038) (by decide +kernel)⟩
theorem lw_p36 : lw_okq (⟨"DeafBells$Puzzles", "fillNear", "(LDeafBells$Rows;Z)V"⟩, 10) := ⟨⟨by decide +kernel, by decide +kernel⟩, List.mem_of_getElem? (i := 382) (by decide +kernel), List.mem_of_getElem? (i := 1053) (by decide +kernel), List.mem_of_getElem? (i := 1054) (by decide +kernel)⟩
theorem lw_p37 : lw_okq (⟨"DeafBells$Puzzles", "stepOn", "(II)I"⟩, 10) := ⟨⟨by decide +kernel, by decide +kernel⟩, List.mem_of_getElem? (i := 382) (by decide +kernel), List.mem_of_getElem? (i := 1058) (by decide +kernel), List.mem_of_getElem? (i := 1059) (by decide +kernel)⟩
theorem lw_p38 : lw_okq (⟨"DeafBells$Puzzles", "heavyOf", "(I)I"⟩, 10) := ⟨⟨by decide +kernel, by decide +kernel⟩, List.mem_of_getElem? (i := 382) (by decide +kernel), List.mem_of_getElem? (i := 1070) (by decide +kernel), List.mem_of_getElem? (i := 1071) (by decide +kernel)⟩
theorem lw_p39 : lw_okq (⟨"DeafBells$Puzzles", "knownWithout", "(I)I"⟩, 10) := ⟨⟨by decide +kernel, by decide +kernel⟩, List.mem_of_getElem? (i := 382) (by decide +kernel), List.mem_of_getElem? (i := 1098) (by decide +kernel), List.mem_of_getElem? (i := 1099) (by decide +kernel)⟩
theorem lw_p40 : lw_okq (⟨"DeafBells$Puzzles", "knowNext", "(I)I"⟩, 10) := ⟨⟨by decide +kernel, by decide +kernel⟩, List.mem_of_getElem? (i := 382) (by decide +kernel), List.mem_of_getElem? (i := 1105) (by decide +kernel), List.mem_of_getElem? (i := 1106) (by decide +kernel)⟩
theorem lw_p41 : lw_okq (⟨"DeafBells$Puzzles", "weightOf", "(I)I"⟩, 10) := ⟨⟨by decide +kernel, by decide +kernel⟩, List.mem_of_getElem? (i := 382) (by decide +kernel), List.mem_of_getElem? (i := 1121) (by decide +kernel), List.mem_of_getElem? (i := 1122) (by decide +kernel)⟩
theorem lw_p42 : lw_okq (⟨"DeafBells$Puzzles", "turnToBeFed", "(I)I"⟩, 10) := ⟨⟨by decide +kernel, by decide +kernel⟩, List.mem_of_getElem? (i := 382) (by decide +kernel), List.mem_of_getElem? (i := 1126) (by decide +kernel), List.mem_of_getElem? (i := 1127) (by decide +kernel)⟩
theorem lw_p43 : lw_okq (⟨"DeafBells$Puzzles", "beat", "(II)Z"⟩, 10) := ⟨⟨by decide +kernel, by decide +kernel⟩, List.mem_of_getElem? (i := 382) (by decide +kernel), List.mem_of_getElem? (i := 1142) (by decide +kernel), List.mem_of_getElem? (i := 1143) (by decide +kernel)⟩
theorem lw_p44 : lw_okq (⟨"DeafBells$Puzzles", "anyBeat", "(I)Z"⟩, 10) := ⟨⟨by decide +kernel, by decide +kernel⟩, List.mem_of_getElem? (i := 382) (by decide +kernel), List.mem_of_getElem? (i := 1146) (by decide +kernel), List.mem_of_getElem? (i := 1147) (by decide +kernel)⟩
theorem lw_p45 : lw_okq (⟨"DeafBells$Puzzles", "countSets", "(I)V"⟩, 10) := ⟨⟨by decide +kernel, by decide +kernel⟩, List.mem_of_getElem? (i := 382) (by decide +kernel), List.mem_of_getElem? (i := 1167) (by decide +kernel), List.mem_of_getElem? (i := 1168) (by decide +kernel)⟩
theorem lw_p46 : lw_okq (⟨"DeafBells$Puzzles", "nimberOf", "(I)I"⟩, 10) := ⟨⟨by decide +kernel, by decide +kernel⟩, List.mem_of_getElem? (i := 382) (by decide +kernel), List.mem_of_getElem? (i := 1184) (by decide +kernel), List.mem_of_getElem? (i := 1185) (by decide +kernel)⟩
theorem lw_p47 : lw_okq (⟨"DeafBells$Puzzles", "loosedWell", "(II)I"⟩, 10) := ⟨⟨by decide +kernel, by decide +kernel⟩, List.mem_of_getElem? (i := 382) (by decide +kernel), List.mem_of_getElem? (i := 1189) (by decide +kernel), List.mem_of_getElem? (i := 1190) (by decide +kernel)⟩
def lw_privs_3 : List (MethodName × Nat) := [(⟨"DeafBells$Puzzles", "rowAsNumber", "()I"⟩, 10), (⟨"DeafBells$Puzzles", "change", "(II)V"⟩, 10), (⟨"DeafBells$Puzzles", "ringsAt", "(II)Z"⟩, 10), (⟨"DeafBells$Puzzles", "firstBellFor", "(III)I"⟩, 10), (⟨"DeafBells$Puzzles", "fillNear", "(LDeafBells$Rows;Z)V"⟩, 10), (⟨"DeafBells$Puzzles", "stepOn", "(II)I"⟩, 10), (⟨"DeafBells$Puzzles", "heavyOf", "(I)I"⟩, 10), (⟨"DeafBells$Puzzles", "knownWithout", "(I)I"⟩, 10), (⟨"DeafBells$Puzzles", "knowNext", "(I)I"⟩, 10), (⟨"DeafBells$Puzzles", "weightOf", "(I)I"⟩, 10), (⟨"DeafBells$Puzzles", "turnToBeFed", "(I)I"⟩, 10), (⟨"DeafBells$Puzzles", "beat", "(II)Z"⟩, 10), (⟨"DeafBells$Puzzles", "anyBeat", "(I)Z"⟩, 10), (⟨"DeafBells$Puzzles", "countSets", "(I)V"⟩, 10), (⟨"DeafBells$Puzzles", "nimberOf", "(I)I"⟩, 10), (⟨"DeafBells$Puzzles", "loosedWell", "(II)I"⟩, 10)]
theorem lw_r3 : ∀ q ∈ lw_privs_3, lw_okq q := List.forall_mem_cons.mpr ⟨lw_p32, List.forall_mem_cons.mpr ⟨lw_p33, List.forall_mem_cons.mpr ⟨lw_p34, List.forall_mem_cons.mpr ⟨lw_p35, List.forall_mem_cons.mpr ⟨lw_p36, List.forall_mem_cons.mpr ⟨lw_p37, List.forall_mem_cons.mpr ⟨lw_p38, List.forall_mem_cons.mpr ⟨lw_p39, List.forall_mem_cons.mpr ⟨lw_p40, List.forall_mem_cons.mpr ⟨lw_p41, List.forall_mem_cons.mpr ⟨lw_p42, List.forall_mem_cons.mpr ⟨lw_p43, List.forall_mem_cons.mpr ⟨lw_p44, List.forall_mem_cons.mpr ⟨lw_p45, List.forall_mem_cons.mpr ⟨lw_p46, List.forall_mem_cons.mpr ⟨lw_p47, fun _ h => absurd h List.not_mem_nil⟩⟩⟩⟩⟩⟩⟩⟩⟩⟩⟩⟩⟩⟩⟩⟩
theorem lw_p48 : lw_okq (⟨"DeafBellsModel", "isBell", "(I)Z"⟩, 67) := ⟨⟨by decide +kernel, by decide +kernel⟩, List.mem_of_getElem? (i := 1230) (by decide +kernel), List.mem_of_getElem? (i := 1450) (by decide +kernel), List.mem_of_getElem? (i := 1451) (by decide +kernel)⟩
theorem lw_p49 : lw_okq (⟨"DeafBellsModel", "isIn", "(III)Z"⟩, 67) := ⟨⟨by decide +kernel, by decide +kernel⟩, List.mem_of_getElem? (i := 1230) (by decide +kernel), List.mem_of_getElem? (i := 1454) (by decide +kernel), List.mem_of_getElem? (i := 1455) (by decide +kernel)⟩
theorem lw_p50 : lw_okq (⟨"DeafBellsModel", "canSet", "(III)Z"⟩, 67) := ⟨⟨by decide +kernel, by decide +kernel⟩, List.mem_of_getElem? (i := 1230) (by decide +kernel), List.mem_of_getElem? (i := 1462) (by decide +kernel), List.mem_of_getElem? (i := 1463) (by decide +kernel)⟩
theorem lw_p51 : lw_okq (⟨"DeafBellsModel", "isRinger", "(I)Z"⟩, 67) := ⟨⟨by decide +kernel, by decide +kernel⟩, List.mem_of_getElem? (i := 1230) (by decide +kernel), List.mem_of_getElem? (i := 1466) (by decide +kernel), List.mem_of_getElem? (i := 1467) (by decide +kernel)⟩
theorem lw_p52 : lw_okq (⟨"DeafBellsModel", "types", "(I)V"⟩, 67) := ⟨⟨by decide +kernel, by decide +kernel⟩, List.mem_of_getElem? (i := 1230) (by decide +kernel), List.mem_of_getElem? (i := 1474) (by decide +kernel), List.mem_of_getElem? (i := 1475) (by decide +kernel)⟩
theorem lw_p53 : lw_okq (⟨"DeafBellsModel", "readsText", "(I)I"⟩, 67) := ⟨⟨by decide +kernel, by decide +kernel⟩, List.mem_of_getElem? (i := 1230) (by decide +kernel), List.mem_of_getElem? (i := 1486) (by decide +kernel), List.mem_of_getElem? (i := 1487) (by decide +kernel)⟩
theorem lw_p54 : lw_okq (⟨"DeafBellsModel", "reads", "()V"⟩, 67) := ⟨⟨by decide +kernel, by decide +kernel⟩, List.mem_of_getElem? (i := 1230) (by decide +kernel), List.mem_of_getElem? (i := 1490) (by decide +kernel), List.mem_of_getElem? (i := 1491) (by decide +kernel)⟩
theorem lw_p55 : lw_okq (⟨"DeafBellsModel", "raw", "(I)I"⟩, 67) := ⟨⟨by decide +kernel, by decide +kernel⟩, List.mem_of_getElem? (i := 1230) (by decide +kernel), List.mem_of_getElem? (i := 1494) (by decide +kernel), List.mem_of_getElem? (i := 1495) (by decide +kernel)⟩
theorem lw_p56 : lw_okq (⟨"DeafBellsModel", "isLetter", "(I)Z"⟩, 67) := ⟨⟨by decide +kernel, by decide +kernel⟩, List.mem_of_getElem? (i := 1230) (by decide +kernel), List.mem_of_getElem? (i := 1498) (by decide +kernel), List.mem_of_getElem? (i := 1499) (by decide +kernel)⟩
theorem lw_p57 : lw_okq (⟨"DeafBellsModel", "wordAt", "(II)I"⟩, 67) := ⟨⟨by decide +kernel, by decide +kernel⟩, List.mem_of_getElem? (i := 1230) (by decide +kernel), List.mem_of_getElem? (i := 1502) (by decide +kernel), List.mem_of_getElem? (i := 1503) (by decide +kernel)⟩
theorem lw_p58 : lw_okq (⟨"DeafBellsModel", "isDigit", "(I)Z"⟩, 67) := ⟨⟨by decide +kernel, by decide +kernel⟩, List.mem_of_getElem? (i := 1230) (by decide +kernel), List.mem_of_getElem? (i := 1506) (by decide +kernel), List.mem_of_getElem? (i := 1507) (by decide +kernel)⟩
theorem lw_p59 : lw_okq (⟨"DeafBellsModel", "isMarkSign", "(I)Z"⟩, 67) := ⟨⟨by decide +kernel, by decide +kernel⟩, List.mem_of_getElem? (i := 1230) (by decide +kernel), List.mem_of_getElem? (i := 1510) (by decide +kernel), List.mem_of_getElem? (i := 1511) (by decide +kernel)⟩
theorem lw_p60 : lw_okq (⟨"DeafBellsModel", "readRopes", "()I"⟩, 67) := ⟨⟨by decide +kernel, by decide +kernel⟩, List.mem_of_getElem? (i := 1230) (by decide +kernel), List.mem_of_getElem? (i := 1514) (by decide +kernel), List.mem_of_getElem? (i := 1515) (by decide +kernel)⟩
theorem lw_p61 : lw_okq (⟨"DeafBellsModel", "isWord", "(I)Z"⟩, 67) := ⟨⟨by decide +kernel, by decide +kernel⟩, List.mem_of_getElem? (i := 1230) (by decide +kernel), List.mem_of_getElem? (i := 1518) (by decide +kernel), List.mem_of_getElem? (i := 1519) (by decide +kernel)⟩
theorem lw_p62 : lw_okq (⟨"DeafBellsModel", "errs", "(I)I"⟩, 67) := ⟨⟨by decide +kernel, by decide +kernel⟩, List.mem_of_getElem? (i := 1230) (by decide +kernel), List.mem_of_getElem? (i := 1522) (by decide +kernel), List.mem_of_getElem? (i := 1523) (by decide +kernel)⟩
theorem lw_p63 : lw_okq (⟨"DeafBellsModel", "readRope", "()I"⟩, 67) := ⟨⟨by decide +kernel, by decide +kernel⟩, List.mem_of_getElem? (i := 1230) (by decide +kernel), List.mem_of_getElem? (i := 1526) (by decide +kernel), List.mem_of_getElem? (i := 1527) (by decide +kernel)⟩
def lw_privs_4 : List (MethodName × Nat) := [(⟨"DeafBellsModel", "isBell", "(I)Z"⟩, 67), (⟨"DeafBellsModel", "isIn", "(III)Z"⟩, 67), (⟨"DeafBellsModel", "canSet", "(III)Z"⟩, 67), (⟨"DeafBellsModel", "isRinger", "(I)Z"⟩, 67), (⟨"DeafBellsModel", "types", "(I)V"⟩, 67), (⟨"DeafBellsModel", "readsText", "(I)I"⟩, 67), (⟨"DeafBellsModel", "reads", "()V"⟩, 67), (⟨"DeafBellsModel", "raw", "(I)I"⟩, 67), (⟨"DeafBellsModel", "isLetter", "(I)Z"⟩, 67), (⟨"DeafBellsModel", "wordAt", "(II)I"⟩, 67), (⟨"DeafBellsModel", "isDigit", "(I)Z"⟩, 67), (⟨"DeafBellsModel", "isMarkSign", "(I)Z"⟩, 67), (⟨"DeafBellsModel", "readRopes", "()I"⟩, 67), (⟨"DeafBellsModel", "isWord", "(I)Z"⟩, 67), (⟨"DeafBellsModel", "errs", "(I)I"⟩, 67), (⟨"DeafBellsModel", "readRope", "()I"⟩, 67)]
theorem lw_r4 : ∀ q ∈ lw_privs_4, lw_okq q := List.forall_mem_cons.mpr ⟨lw_p48, List.forall_mem_cons.mpr ⟨lw_p49, List.forall_mem_cons.mpr ⟨lw_p50, List.forall_mem_cons.mpr ⟨lw_p51, List.forall_mem_cons.mpr ⟨lw_p52, List.forall_mem_cons.mpr ⟨lw_p53, List.forall_mem_cons.mpr ⟨lw_p54, List.forall_mem_cons.mpr ⟨lw_p55, List.forall_mem_cons.mpr ⟨lw_p56, List.forall_mem_cons.mpr ⟨lw_p57, List.forall_mem_cons.mpr ⟨lw_p58, List.forall_mem_cons.mpr ⟨lw_p59, List.forall_mem_cons.mpr ⟨lw_p60, List.forall_mem_cons.mpr ⟨lw_p61, List.forall_mem_cons.mpr ⟨lw_p62, List.forall_mem_cons.mpr ⟨lw_p63, fun _ h => absurd h List.not_mem_nil⟩⟩⟩⟩⟩⟩⟩⟩⟩⟩⟩⟩⟩⟩⟩⟩
theorem lw_p64 : lw_okq (⟨"DeafBellsModel", "readTold", "(III)I"⟩, 67) := ⟨⟨by decide +kernel, by decide +kernel⟩, List.mem_of_getElem? (i := 1230) (by decide +kernel), List.mem_of_getElem? (i := 1530) (by decide +kernel), List.mem_of_getElem? (i := 1531) (by decide +kernel)⟩
theorem lw_p65 : lw_okq (⟨"DeafBellsModel", "readNumber", "(II)I"⟩, 67) := ⟨⟨by decide +kernel, by decide +kernel⟩, List.mem_of_getElem? (i := 1230) (by decide +kernel), List.mem_of_getElem? (i := 1534) (by decide +kernel), List.mem_of_getElem? (i := 1535) (by decide +kernel)⟩
theorem lw_p66 : lw_okq (⟨"DeafBellsModel", "readMark", "(I)I"⟩, 67) := ⟨⟨by decide +kernel, by decide +kernel⟩, List.mem_of_getElem? (i := 1230) (by decide +kernel), List.mem_of_getElem? (i := 1538) (by decide +kernel), List.mem_of_getElem? (i := 1539) (by decide +kernel)⟩
theorem lw_p67 : lw_okq (⟨"DeafBellsModel", "isSign", "(I)Z"⟩, 67) := ⟨⟨by decide +kernel, by decide +kernel⟩, List.mem_of_getElem? (i := 1230) (by decide +kernel), List.mem_of_getElem? (i := 1542) (by decide +kernel), List.mem_of_getElem? (i := 1543) (by decide +kernel)⟩
theorem lw_p68 : lw_okq (⟨"DeafBellsModel", "readDays", "()I"⟩, 67) := ⟨⟨by decide +kernel, by decide +kernel⟩, List.mem_of_getElem? (i := 1230) (by decide +kernel), List.mem_of_getElem? (i := 1546) (by decide +kernel), List.mem_of_getElem? (i := 1547) (by decide +kernel)⟩
theorem lw_p69 : lw_okq (⟨"DeafBellsModel", "readDay", "(I)I"⟩, 67) := ⟨⟨by decide +kernel, by decide +kernel⟩, List.mem_of_getElem? (i := 1230) (by decide +kernel), List.mem_of_getElem? (i := 1550) (by decide +kernel), List.mem_of_getElem? (i := 1551) (by decide +kernel)⟩
theorem lw_p70 : lw_okq (⟨"DeafBellsModel", "readChanges", "()I"⟩, 67) := ⟨⟨by decide +kernel, by decide +kernel⟩, List.mem_of_getElem? (i := 1230) (by decide +kernel), List.mem_of_getElem? (i := 1554) (by decide +kernel), List.mem_of_getElem? (i := 1555) (by decide +kernel)⟩
theorem lw_p71 : lw_okq (⟨"DeafBellsModel", "readChange", "(I)I"⟩, 67) := ⟨⟨by decide +kernel, by decide +kernel⟩, List.mem_of_getElem? (i := 1230) (by decide +kernel), List.mem_of_getElem? (i := 1558) (by decide +kernel), List.mem_of_getElem? (i := 1559) (by decide +kernel)⟩
theorem lw_p72 : lw_okq (⟨"DeafBellsModel", "readLaw", "()I"⟩, 67) := ⟨⟨by decide +kernel, by decide +kernel⟩, List.mem_of_getElem? (i := 1230) (by decide +kernel), List.mem_of_getElem? (i := 1562) (by decide +kernel), List.mem_of_getElem? (i := 1563) (by decide +kernel)⟩
theorem lw_p73 : lw_okq (⟨"DeafBellsModel", "isLineWord", "()Z"⟩, 67) := ⟨⟨by decide +kernel, by decide +kernel⟩, List.mem_of_getElem? (i := 1230) (by decide +kernel), List.mem_of_getElem? (i := 1566) (by decide +kernel), List.mem_of_getElem? (i := 1567) (by decide +kernel)⟩
theorem lw_p74 : lw_okq (⟨"DeafBellsModel", "readSum", "()I"⟩, 67) := ⟨⟨by decide +kernel, by decide +kernel⟩, List.mem_of_getElem? (i := 1230) (by decide +kernel), List.mem_of_getElem? (i := 1570) (by decide +kernel), List.mem_of_getElem? (i := 1571) (by decide +kernel)⟩
theorem lw_p75 : lw_okq (⟨"DeafBellsModel", "readProduct", "()I"⟩, 67) := ⟨⟨by decide +kernel, by decide +kernel⟩, List.mem_of_getElem? (i := 1230) (by decide +kernel), List.mem_of_getElem? (i := 1574) (by decide +kernel), List.mem_of_getElem? (i := 1575) (by decide +kernel)⟩
theorem lw_p76 : lw_okq (⟨"DeafBellsModel", "readUnit", "()I"⟩, 67) := ⟨⟨by decide +kernel, by decide +kernel⟩, List.mem_of_getElem? (i := 1230) (by decide +kernel), List.mem_of_getElem? (i := 1578) (by decide +kernel), List.mem_of_getElem? (i := 1579) (by decide +kernel)⟩
theorem lw_p77 : lw_okq (⟨"DeafBellsModel", "canAsk", "(I)Z"⟩, 67) := ⟨⟨by decide +kernel, by decide +kernel⟩, List.mem_of_getElem? (i := 1230) (by decide +kernel), List.mem_of_getElem? (i := 1582) (by decide +kernel), List.mem_of_getElem? (i := 1583) (by decide +kernel)⟩
theorem lw_p78 : lw_okq (⟨"DeafBellsModel", "emits", "(II)V"⟩, 67) := ⟨⟨by decide +kernel, by decide +kernel⟩, List.mem_of_getElem? (i := 1230) (by decide +kernel), List.mem_of_getElem? (i := 1586) (by decide +kernel), List.mem_of_getElem? (i := 1587) (by decide +kernel)⟩
theorem lw_p79 : lw_okq (⟨"DeafBellsModel", "readAny", "()I"⟩, 67) := ⟨⟨by decide +kernel, by decide +kernel⟩, List.mem_of_getElem? (i := 1230) (by decide +kernel), List.mem_of_getElem? (i := 1590) (by decide +kernel), List.mem_of_getElem? (i := 1591) (by decide +kernel)⟩
def lw_privs_5 : List (MethodName × Nat) := [(⟨"DeafBellsModel", "readTold", "(III)I"⟩, 67), (⟨"DeafBellsModel", "readNumber", "(II)I"⟩, 67), (⟨"DeafBellsModel", "readMark", "(I)I"⟩, 67), (⟨"DeafBellsModel", "isSign", "(I)Z"⟩, 67), (⟨"DeafBellsModel", "readDays", "()I"⟩, 67), (⟨"DeafBellsModel", "readDay", "(I)I"⟩, 67), (⟨"DeafBellsModel", "readChanges", "()I"⟩, 67), (⟨"DeafBellsModel", "readChange", "(I)I"⟩, 67), (⟨"DeafBellsModel", "readLaw", "()I"⟩, 67), (⟨"DeafBellsModel", "isLineWord", "()Z"⟩, 67), (⟨"DeafBellsModel", "readSum", "()I"⟩, 67), (⟨"DeafBellsModel", "readProduct", "()I"⟩, 67), (⟨"DeafBellsModel", "readUnit", "()I"⟩, 67), (⟨"DeafBellsModel", "canAsk", "(I)Z"⟩, 67), (⟨"DeafBellsModel", "emits", "(II)V"⟩, 67), (⟨"DeafBellsModel", "readAny", "()I"⟩, 67)]
theorem lw_r5 : ∀ q ∈ lw_privs_5, lw_okq q := List.forall_mem_cons.mpr ⟨lw_p64, List.forall_mem_cons.mpr ⟨lw_p65, List.forall_mem_cons.mpr ⟨lw_p66, List.forall_mem_cons.mpr ⟨lw_p67, List.forall_mem_cons.mpr ⟨lw_p68, List.forall_mem_cons.mpr ⟨lw_p69, List.forall_mem_cons.mpr ⟨lw_p70, List.forall_mem_cons.mpr ⟨lw_p71, List.forall_mem_cons.mpr ⟨lw_p72, List.forall_mem_cons.mpr ⟨lw_p73, List.forall_mem_cons.mpr ⟨lw_p74, List.forall_mem_cons.mpr ⟨lw_p75, List.forall_mem_cons.mpr ⟨lw_p76, List.forall_mem_cons.mpr ⟨lw_p77, List.forall_mem_cons.mpr ⟨lw_p78, List.forall_mem_cons.mpr ⟨lw_p79, fun _ h => absurd h List.not_mem_nil⟩⟩⟩⟩⟩⟩⟩⟩⟩⟩⟩⟩⟩⟩⟩⟩
theorem lw_p80 : lw_okq (⟨"DeafBellsModel", "waits", "(I)V"⟩, 67) := ⟨⟨by decide +kernel, by decide +kernel⟩, List.mem_of_getElem? (i := 1230) (by decide +kernel), List.mem_of_getElem? (i := 1594) (by decide +kernel), List.mem_of_getElem? (i := 1595) (by decide +kernel)⟩
theorem lw_p81 : lw_okq (⟨"DeafBellsModel", "readCompared", "()I"⟩, 67) := ⟨⟨by decide +kernel, by decide +kernel⟩, List.mem_of_getElem? (i := 1230) (by decide +kernel), List.mem_of_getElem? (i := 1598) (by decide +kernel), List.mem_of_getElem? (i := 1599) (by decide +kernel)⟩
theorem lw_p82 : lw_okq (⟨"DeafBellsModel", "settles", "(I)V"⟩, 67) := ⟨⟨by decide +kernel, by decide +kernel⟩, List.mem_of_getElem? (i := 1230) (by decide +kernel), List.mem_of_getElem? (i := 1602) (by decide +kernel), List.mem_of_getElem? (i := 1603) (by decide +kernel)⟩
theorem lw_p83 : lw_okq (⟨"DeafBellsModel", "takesLaw", "(I)V"⟩, 67) := ⟨⟨by decide +kernel, by decide +kernel⟩, List.mem_of_getElem? (i := 1230) (by decide +kernel), List.mem_of_getElem? (i := 1606) (by decide +kernel), List.mem_of_getElem? (i := 1607) (by decide +kernel)⟩
theorem lw_p84 : lw_okq (⟨"DeafBellsModel", "takesOther", "(II)V"⟩, 67) := ⟨⟨by decide +kernel, by decide +kernel⟩, List.mem_of_getElem? (i := 1230) (by decide +kernel), List.mem_of_getElem? (i := 1610) (by decide +kernel), List.mem_of_getElem? (i := 1611) (by decide +kernel)⟩
theorem lw_p85 : lw_okq (⟨"DeafBellsModel", "isAwake", "(I)Z"⟩, 67) := ⟨⟨by decide +kernel, by decide +kernel⟩, List.mem_of_getElem? (i := 1230) (by decide +kernel), List.mem_of_getElem? (i := 1622) (by decide +kernel), List.mem_of_getElem? (i := 1623) (by decide +kernel)⟩
theorem lw_p86 : lw_okq (⟨"DeafBellsModel", "keepsAhead", "()V"⟩, 67) := ⟨⟨by decide +kernel, by decide +kernel⟩, List.mem_of_getElem? (i := 1230) (by decide +kernel), List.mem_of_getElem? (i := 1626) (by decide +kernel), List.mem_of_getElem? (i := 1627) (by decide +kernel)⟩
theorem lw_p87 : lw_okq (⟨"DeafBellsModel", "pulls", "(I)I"⟩, 67) := ⟨⟨by decide +kernel, by decide +kernel⟩, List.mem_of_getElem? (i := 1230) (by decide +kernel), List.mem_of_getElem? (i := 1630) (by decide +kernel), List.mem_of_getElem? (i := 1631) (by decide +kernel)⟩
theorem lw_p88 : lw_okq (⟨"DeafBellsModel", "hardOf", "(I)I"⟩, 67) := ⟨⟨by decide +kernel, by decide +kernel⟩, List.mem_of_getElem? (i := 1230) (by decide +kernel), List.mem_of_getElem? (i := 1634) (by decide +kernel), List.mem_of_getElem? (i := 1635) (by decide +kernel)⟩
theorem lw_p89 : lw_okq (⟨"DeafBellsModel", "asks", "(I)V"⟩, 67) := ⟨⟨by decide +kernel, by decide +kernel⟩, List.mem_of_getElem? (i := 1230) (by decide +kernel), List.mem_of_getElem? (i := 1638) (by decide +kernel), List.mem_of_getElem? (i := 1639) (by decide +kernel)⟩
theorem lw_p90 : lw_okq (⟨"DeafBellsModel", "asksTower", "()V"⟩, 67) := ⟨⟨by decide +kernel, by decide +kernel⟩, List.mem_of_getElem? (i := 1230) (by decide +kernel), List.mem_of_getElem? (i := 1642) (by decide +kernel), List.mem_of_getElem? (i := 1643) (by decide +kernel)⟩
theorem lw_p91 : lw_okq (⟨"DeafBellsModel", "heavy", "(I)I"⟩, 67) := ⟨⟨by decide +kernel, by decide +kernel⟩, List.mem_of_getElem? (i := 1230) (by decide +kernel), List.mem_of_getElem? (i := 1646) (by decide +kernel), List.mem_of_getElem? (i := 1647) (by decide +kernel)⟩
theorem lw_p92 : lw_okq (⟨"DeafBellsModel", "onesOf", "(I)I"⟩, 67) := ⟨⟨by decide +kernel, by decide +kernel⟩, List.mem_of_getElem? (i := 1230) (by decide +kernel), List.mem_of_getElem? (i := 1650) (by decide +kernel), List.mem_of_getElem? (i := 1651) (by decide +kernel)⟩
theorem lw_p93 : lw_okq (⟨"DeafBellsModel", "lawTells", "(III)I"⟩, 67) := ⟨⟨by decide +kernel, by decide +kernel⟩, List.mem_of_getElem? (i := 1230) (by decide +kernel), List.mem_of_getElem? (i := 1654) (by decide +kernel), List.mem_of_getElem? (i := 1655) (by decide +kernel)⟩
theorem lw_p94 : lw_okq (⟨"DeafBellsModel", "lineOf", "(I)I"⟩, 67) := ⟨⟨by decide +kernel, by decide +kernel⟩, List.mem_of_getElem? (i := 1230) (by decide +kernel), List.mem_of_getElem? (i := 1658) (by decide +kernel), List.mem_of_getElem? (i := 1659) (by decide +kernel)⟩
theorem lw_p95 : lw_okq (⟨"DeafBellsModel", "runs", "(III)I"⟩, 67) := ⟨⟨by decide +kernel, by decide +kernel⟩, List.mem_of_getElem? (i := 1230) (by decide +kernel), List.mem_of_getElem? (i := 1662) (by decide +kernel), List.mem_of_getElem? (i := 1663) (by decide +kernel)⟩
def lw_privs_6 : List (MethodName × Nat) := [(⟨"DeafBellsModel", "waits", "(I)V"⟩, 67), (⟨"DeafBellsModel", "readCompared", "()I"⟩, 67), (⟨"DeafBellsModel", "settles", "(I)V"⟩, 67), (⟨"DeafBellsModel", "takesLaw", "(I)V"⟩, 67), (⟨"DeafBellsModel", "takesOther", "(II)V"⟩, 67), (⟨"DeafBellsModel", "isAwake", "(I)Z"⟩, 67), (⟨"DeafBellsModel", "keepsAhead", "()V"⟩, 67), (⟨"DeafBellsModel", "pulls", "(I)I"⟩, 67), (⟨"DeafBellsModel", "hardOf", "(I)I"⟩, 67), (⟨"DeafBellsModel", "asks", "(I)V"⟩, 67), (⟨"DeafBellsModel", "asksTower", "()V"⟩, 67), (⟨"DeafBellsModel", "heavy", "(I)I"⟩, 67), (⟨"DeafBellsModel", "onesOf", "(I)I"⟩, 67), (⟨"DeafBellsModel", "lawTells", "(III)I"⟩, 67), (⟨"DeafBellsModel", "lineOf", "(I)I"⟩, 67), (⟨"DeafBellsModel", "runs", "(III)I"⟩, 67)]
theorem lw_r6 : ∀ q ∈ lw_privs_6, lw_okq q := List.forall_mem_cons.mpr ⟨lw_p80, List.forall_mem_cons.mpr ⟨lw_p81, List.forall_mem_cons.mpr ⟨lw_p82, List.forall_mem_cons.mpr ⟨lw_p83, List.forall_mem_cons.mpr ⟨lw_p84, List.forall_mem_cons.mpr ⟨lw_p85, List.forall_mem_cons.mpr ⟨lw_p86, List.forall_mem_cons.mpr ⟨lw_p87, List.forall_mem_cons.mpr ⟨lw_p88, List.forall_mem_cons.mpr ⟨lw_p89, List.forall_mem_cons.mpr ⟨lw_p90, List.forall_mem_cons.mpr ⟨lw_p91, List.forall_mem_cons.mpr ⟨lw_p92, List.forall_mem_cons.mpr ⟨lw_p93, List.forall_mem_cons.mpr ⟨lw_p94, List.forall_mem_cons.mpr ⟨lw_p95, fun _ h => absurd h List.not_mem_nil⟩⟩⟩⟩⟩⟩⟩⟩⟩⟩⟩⟩⟩⟩⟩⟩
theorem lw_p96 : lw_okq (⟨"DeafBellsModel", "twoOf", "(III)I"⟩, 67) := ⟨⟨by decide +kernel, by decide +kernel⟩, List.mem_of_getElem? (i := 1230) (by decide +kernel), List.mem_of_getElem? (i := 1666) (by decide +kernel), List.mem_of_getElem? (i := 1667) (by decide +kernel)⟩
theorem lw_p97 : lw_okq (⟨"DeafBellsModel", "held", "(III)I"⟩, 67) := ⟨⟨by decide +kernel, by decide +kernel⟩, List.mem_of_getElem? (i := 1230) (by decide +kernel), List.mem_of_getElem? (i := 1670) (by decide +kernel), List.mem_of_getElem? (i := 1671) (by decide +kernel)⟩
theorem lw_p98 : lw_okq (⟨"DeafBellsModel", "lesser", "(II)I"⟩, 67) := ⟨⟨by decide +kernel, by decide +kernel⟩, List.mem_of_getElem? (i := 1230) (by decide +kernel), List.mem_of_getElem? (i := 1674) (by decide +kernel), List.mem_of_getElem? (i := 1675) (by decide +kernel)⟩
theorem lw_p99 : lw_okq (⟨"DeafBellsModel", "notes", "(III)V"⟩, 67) := ⟨⟨by decide +kernel, by decide +kernel⟩, List.mem_of_getElem? (i := 1230) (by decide +kernel), List.mem_of_getElem? (i := 1678) (by decide +kernel), List.mem_of_getElem? (i := 1679) (by decide +kernel)⟩
theorem lw_p100 : lw_okq (⟨"DeafBellsModel", "goesBy", "()I"⟩, 67) := ⟨⟨by decide +kernel, by decide +kernel⟩, List.mem_of_getElem? (i := 1230) (by decide +kernel), List.mem_of_getElem? (i := 1690) (by decide +kernel), List.mem_of_getElem? (i := 1691) (by decide +kernel)⟩
theorem lw_p101 : lw_okq (⟨"DeafBellsModel", "happens", "(II)V"⟩, 67) := ⟨⟨by decide +kernel, by decide +kernel⟩, List.mem_of_getElem? (i := 1230) (by decide +kernel), List.mem_of_getElem? (i := 1694) (by decide +kernel), List.mem_of_getElem? (i := 1695) (by decide +kernel)⟩
theorem lw_p102 : lw_okq (⟨"DeafBellsModel", "greater", "(II)I"⟩, 67) := ⟨⟨by decide +kernel, by decide +kernel⟩, List.mem_of_getElem? (i := 1230) (by decide +kernel), List.mem_of_getElem? (i := 1698) (by decide +kernel), List.mem_of_getElem? (i := 1699) (by decide +kernel)⟩
theorem lw_p103 : lw_okq (⟨"DeafBellsModel", "doesPull", "(I)Z"⟩, 67) := ⟨⟨by decide +kernel, by decide +kernel⟩, List.mem_of_getElem? (i := 1230) (by decide +kernel), List.mem_of_getElem? (i := 1702) (by decide +kernel), List.mem_of_getElem? (i := 1703) (by decide +kernel)⟩
theorem lw_p104 : lw_okq (⟨"DeafBellsModel", "pullOf", "(I)I"⟩, 67) := ⟨⟨by decide +kernel, by decide +kernel⟩, List.mem_of_getElem? (i := 1230) (by decide +kernel), List.mem_of_getElem? (i := 1706) (by decide +kernel), List.mem_of_getElem? (i := 1707) (by decide +kernel)⟩
theorem lw_p105 : lw_okq (⟨"DeafBellsModel", "draw", "(I)I"⟩, 67) := ⟨⟨by decide +kernel, by decide +kernel⟩, List.mem_of_getElem? (i := 1230) (by decide +kernel), List.mem_of_getElem? (i := 1710) (by decide +kernel), List.mem_of_getElem? (i := 1711) (by decide +kernel)⟩
theorem lw_p106 : lw_okq (⟨"DeafBellsModel", "lostNow", "()I"⟩, 67) := ⟨⟨by decide +kernel, by decide +kernel⟩, List.mem_of_getElem? (i := 1230) (by decide +kernel), List.mem_of_getElem? (i := 1716) (by decide +kernel), List.mem_of_getElem? (i := 1717) (by decide +kernel)⟩
theorem lw_p107 : lw_okq (⟨"DeafBellsModel", "rests", "(I)V"⟩, 67) := ⟨⟨by decide +kernel, by decide +kernel⟩, List.mem_of_getElem? (i := 1230) (by decide +kernel), List.mem_of_getElem? (i := 1720) (by decide +kernel), List.mem_of_getElem? (i := 1721) (by decide +kernel)⟩
theorem lw_p108 : lw_okq (⟨"DeafBellsModel", "thinks", "()V"⟩, 67) := ⟨⟨by decide +kernel, by decide +kernel⟩, List.mem_of_getElem? (i := 1230) (by decide +kernel), List.mem_of_getElem? (i := 1744) (by decide +kernel), List.mem_of_getElem? (i := 1745) (by decide +kernel)⟩
theorem lw_p109 : lw_okq (⟨"DeafBellsModel", "awakeSet", "()I"⟩, 67) := ⟨⟨by decide +kernel, by decide +kernel⟩, List.mem_of_getElem? (i := 1230) (by decide +kernel), List.mem_of_getElem? (i := 1748) (by decide +kernel), List.mem_of_getElem? (i := 1749) (by decide +kernel)⟩
theorem lw_p110 : lw_okq (⟨"DeafBellsModel", "endsThought", "()V"⟩, 67) := ⟨⟨by decide +kernel, by decide +kernel⟩, List.mem_of_getElem? (i := 1230) (by decide +kernel), List.mem_of_getElem? (i := 1752) (by decide +kernel), List.mem_of_getElem? (i := 1753) (by decide +kernel)⟩
theorem lw_p111 : lw_okq (⟨"DeafBellsModel", "findsRows", "(II)V"⟩, 67) := ⟨⟨by decide +kernel, by decide +kernel⟩, List.mem_of_getElem? (i := 1230) (by decide +kernel), List.mem_of_getElem? (i := 1760) (by decide +kernel), List.mem_of_getElem? (i := 1761) (by decide +kernel)⟩
def lw_privs_7 : List (MethodName × Nat) := [(⟨"DeafBellsModel", "twoOf", "(III)I"⟩, 67), (⟨"DeafBellsModel", "held", "(III)I"⟩, 67), (⟨"DeafBellsModel", "lesser", "(II)I"⟩, 67), (⟨"DeafBellsModel", "notes", "(III)V"⟩, 67), (⟨"DeafBellsModel", "goesBy", "()I"⟩, 67), (⟨"DeafBellsModel", "happens", "(II)V"⟩, 67), (⟨"DeafBellsModel", "greater", "(II)I"⟩, 67), (⟨"DeafBellsModel", "doesPull", "(I)Z"⟩, 67), (⟨"DeafBellsModel", "pullOf", "(I)I"⟩, 67), (⟨"DeafBellsModel", "draw", "(I)I"⟩, 67), (⟨"DeafBellsModel", "lostNow", "()I"⟩, 67), (⟨"DeafBellsModel", "rests", "(I)V"⟩, 67), (⟨"DeafBellsModel", "thinks", "()V"⟩, 67), (⟨"DeafBellsModel", "awakeSet", "()I"⟩, 67), (⟨"DeafBellsModel", "endsThought", "()V"⟩, 67), (⟨"DeafBellsModel", "findsRows", "(II)V"⟩, 67)]
theorem lw_r7 : ∀ q ∈ lw_privs_7, lw_okq q := List.forall_mem_cons.mpr ⟨lw_p96, List.forall_mem_cons.mpr ⟨lw_p97, List.forall_mem_cons.mpr ⟨lw_p98, List.forall_mem_cons.mpr ⟨lw_p99, List.forall_mem_cons.mpr ⟨lw_p100, List.forall_mem_cons.mpr ⟨lw_p101, List.forall_mem_cons.mpr ⟨lw_p102, List.forall_mem_cons.mpr ⟨lw_p103, List.forall_mem_cons.mpr ⟨lw_p104, List.forall_mem_cons.mpr ⟨lw_p105, List.forall_mem_cons.mpr ⟨lw_p106, List.forall_mem_cons.mpr ⟨lw_p107, List.forall_mem_cons.mpr ⟨lw_p108, List.forall_mem_cons.mpr ⟨lw_p109, List.forall_mem_cons.mpr ⟨lw_p110, List.forall_mem_cons.mpr ⟨lw_p111, fun _ h => absurd h List.not_mem_nil⟩⟩⟩⟩⟩⟩⟩⟩⟩⟩⟩⟩⟩⟩⟩⟩
theorem lw_p112 : lw_okq (⟨"DeafBellsModel", "has", "(II)Z"⟩, 67) := ⟨⟨by decide +kernel, by decide +kernel⟩, List.mem_of_getElem? (i := 1230) (by decide +kernel), List.mem_of_getElem? (i := 1764) (by decide +kernel), List.mem_of_getElem? (i := 1765) (by decide +kernel)⟩
theorem lw_p113 : lw_okq (⟨"DeafBellsModel", "longOf", "(I)I"⟩, 67) := ⟨⟨by decide +kernel, by decide +kernel⟩, List.mem_of_getElem? (i := 1230) (by decide +kernel), List.mem_of_getElem? (i := 1768) (by decide +kernel), List.mem_of_getElem? (i := 1769) (by decide +kernel)⟩
theorem lw_p114 : lw_okq (⟨"DeafBellsModel", "isSameRow", "(III)Z"⟩, 67) := ⟨⟨by decide +kernel, by decide +kernel⟩, List.mem_of_getElem? (i := 1230) (by decide +kernel), List.mem_of_getElem? (i := 1772) (by decide +kernel), List.mem_of_getElem? (i := 1773) (by decide +kernel)⟩
theorem lw_p115 : lw_okq (⟨"DeafBellsModel", "trueOf", "(I)I"⟩, 67) := ⟨⟨by decide +kernel, by decide +kernel⟩, List.mem_of_getElem? (i := 1230) (by decide +kernel), List.mem_of_getElem? (i := 1776) (by decide +kernel), List.mem_of_getElem? (i := 1777) (by decide +kernel)⟩
theorem lw_p116 : lw_okq (⟨"DeafBellsModel", "apart", "()I"⟩, 67) := ⟨⟨by decide +kernel, by decide +kernel⟩, List.mem_of_getElem? (i := 1230) (by decide +kernel), List.mem_of_getElem? (i := 1793) (by decide +kernel), List.mem_of_getElem? (i := 1794) (by decide +kernel)⟩
theorem lw_p117 : lw_okq (⟨"DeafBellsModel", "ringingAt", "(I)I"⟩, 67) := ⟨⟨by decide +kernel, by decide +kernel⟩, List.mem_of_getElem? (i := 1230) (by decide +kernel), List.mem_of_getElem? (i := 1806) (by decide +kernel), List.mem_of_getElem? (i := 1807) (by decide +kernel)⟩
theorem lw_p118 : lw_okq (⟨"DeafBellsModel", "findsHeld", "()V"⟩, 67) := ⟨⟨by decide +kernel, by decide +kernel⟩, List.mem_of_getElem? (i := 1230) (by decide +kernel), List.mem_of_getElem? (i := 1818) (by decide +kernel), List.mem_of_getElem? (i := 1819) (by decide +kernel)⟩
theorem lw_p119 : lw_okq (⟨"DeafBellsModel", "heldBy", "(III)I"⟩, 67) := ⟨⟨by decide +kernel, by decide +kernel⟩, List.mem_of_getElem? (i := 1230) (by decide +kernel), List.mem_of_getElem? (i := 1822) (by decide +kernel), List.mem_of_getElem? (i := 1823) (by decide +kernel)⟩
theorem lw_p120 : lw_okq (⟨"DeafBellsModel", "looksOn", "()V"⟩, 67) := ⟨⟨by decide +kernel, by decide +kernel⟩, List.mem_of_getElem? (i := 1230) (by decide +kernel), List.mem_of_getElem? (i := 1834) (by decide +kernel), List.mem_of_getElem? (i := 1835) (by decide +kernel)⟩
theorem lw_p121 : lw_okq (⟨"DeafBellsModel", "heavyOf", "(I)I"⟩, 67) := ⟨⟨by decide +kernel, by decide +kernel⟩, List.mem_of_getElem? (i := 1230) (by decide +kernel), List.mem_of_getElem? (i := 1842) (by decide +kernel), List.mem_of_getElem? (i := 1843) (by decide +kernel)⟩
theorem lw_p122 : lw_okq (⟨"DeafBellsModel", "pigeonsFrom", "(II)I"⟩, 67) := ⟨⟨by decide +kernel, by decide +kernel⟩, List.mem_of_getElem? (i := 1230) (by decide +kernel), List.mem_of_getElem? (i := 1854) (by decide +kernel), List.mem_of_getElem? (i := 1855) (by decide +kernel)⟩
theorem lw_p123 : lw_okq (⟨"DeafBellsModel", "doesSplit", "(I)Z"⟩, 67) := ⟨⟨by decide +kernel, by decide +kernel⟩, List.mem_of_getElem? (i := 1230) (by decide +kernel), List.mem_of_getElem? (i := 1866) (by decide +kernel), List.mem_of_getElem? (i := 1867) (by decide +kernel)⟩
theorem lw_p124 : lw_okq (⟨"DeafBellsModel", "reachedFrom", "(II)I"⟩, 67) := ⟨⟨by decide +kernel, by decide +kernel⟩, List.mem_of_getElem? (i := 1230) (by decide +kernel), List.mem_of_getElem? (i := 1870) (by decide +kernel), List.mem_of_getElem? (i := 1871) (by decide +kernel)⟩
theorem lw_p125 : lw_okq (⟨"DeafBellsModel", "toldBy", "(I)I"⟩, 67) := ⟨⟨by decide +kernel, by decide +kernel⟩, List.mem_of_getElem? (i := 1230) (by decide +kernel), List.mem_of_getElem? (i := 1874) (by decide +kernel), List.mem_of_getElem? (i := 1875) (by decide +kernel)⟩
theorem lw_p126 : lw_okq (⟨"DeafBellsModel", "fedAhead", "(I)I"⟩, 67) := ⟨⟨by decide +kernel, by decide +kernel⟩, List.mem_of_getElem? (i := 1230) (by decide +kernel), List.mem_of_getElem? (i := 1882) (by decide +kernel), List.mem_of_getElem? (i := 1883) (by decide +kernel)⟩
theorem lw_p127 : lw_okq (⟨"DeafBellsModel", "needOf", "(I)I"⟩, 67) := ⟨⟨by decide +kernel, by decide +kernel⟩, List.mem_of_getElem? (i := 1230) (by decide +kernel), List.mem_of_getElem? (i := 1886) (by decide +kernel), List.mem_of_getElem? (i := 1887) (by decide +kernel)⟩
def lw_privs_8 : List (MethodName × Nat) := [(⟨"DeafBellsModel", "has", "(II)Z"⟩, 67), (⟨"DeafBellsModel", "longOf", "(I)I"⟩, 67), (⟨"DeafBellsModel", "isSameRow", "(III)Z"⟩, 67), (⟨"DeafBellsModel", "trueOf", "(I)I"⟩, 67), (⟨"DeafBellsModel", "apart", "()I"⟩, 67), (⟨"DeafBellsModel", "ringingAt", "(I)I"⟩, 67), (⟨"DeafBellsModel", "findsHeld", "()V"⟩, 67), (⟨"DeafBellsModel", "heldBy", "(III)I"⟩, 67), (⟨"DeafBellsModel", "looksOn", "()V"⟩, 67), (⟨"DeafBellsModel", "heavyOf", "(I)I"⟩, 67), (⟨"DeafBellsModel", "pigeonsFrom", "(II)I"⟩, 67), (⟨"DeafBellsModel", "doesSplit", "(I)Z"⟩, 67), (⟨"DeafBellsModel", "reachedFrom", "(II)I"⟩, 67), (⟨"DeafBellsModel", "toldBy", "(I)I"⟩, 67), (⟨"DeafBellsModel", "fedAhead", "(I)I"⟩, 67), (⟨"DeafBellsModel", "needOf", "(I)I"⟩, 67)]
theorem lw_r8 : ∀ q ∈ lw_privs_8, lw_okq q := List.forall_mem_cons.mpr ⟨lw_p112, List.forall_mem_cons.mpr ⟨lw_p113, List.forall_mem_cons.mpr ⟨lw_p114, List.forall_mem_cons.mpr ⟨lw_p115, List.forall_mem_cons.mpr ⟨lw_p116, List.forall_mem_cons.mpr ⟨lw_p117, List.forall_mem_cons.mpr ⟨lw_p118, List.forall_mem_cons.mpr ⟨lw_p119, List.forall_mem_cons.mpr ⟨lw_p120, List.forall_mem_cons.mpr ⟨lw_p121, List.forall_mem_cons.mpr ⟨lw_p122, List.forall_mem_cons.mpr ⟨lw_p123, List.forall_mem_cons.mpr ⟨lw_p124, List.forall_mem_cons.mpr ⟨lw_p125, List.forall_mem_cons.mpr ⟨lw_p126, List.forall_mem_cons.mpr ⟨lw_p127, fun _ h => absurd h List.not_mem_nil⟩⟩⟩⟩⟩⟩⟩⟩⟩⟩⟩⟩⟩⟩⟩⟩
theorem lw_p128 : lw_okq (⟨"DeafBellsModel", "isBeating", "(I)Z"⟩, 67) := ⟨⟨by decide +kernel, by decide +kernel⟩, List.mem_of_getElem? (i := 1230) (by decide +kernel), List.mem_of_getElem? (i := 1894) (by decide +kernel), List.mem_of_getElem? (i := 1895) (by decide +kernel)⟩
theorem lw_p129 : lw_okq (⟨"DeafBellsModel", "opinionOf", "(I)I"⟩, 67) := ⟨⟨by decide +kernel, by decide +kernel⟩, List.mem_of_getElem? (i := 1230) (by decide +kernel), List.mem_of_getElem? (i := 1906) (by decide +kernel), List.mem_of_getElem? (i := 1907) (by decide +kernel)⟩
theorem lw_p130 : lw_okq (⟨"DeafBellsModel", "swings", "(I)I"⟩, 67) := ⟨⟨by decide +kernel, by decide +kernel⟩, List.mem_of_getElem? (i := 1230) (by decide +kernel), List.mem_of_getElem? (i := 1910) (by decide +kernel), List.mem_of_getElem? (i := 1911) (by decide +kernel)⟩
theorem lw_p131 : lw_okq (⟨"DeafBellsModel", "findsNimbers", "()V"⟩, 67) := ⟨⟨by decide +kernel, by decide +kernel⟩, List.mem_of_getElem? (i := 1230) (by decide +kernel), List.mem_of_getElem? (i := 1918) (by decide +kernel), List.mem_of_getElem? (i := 1919) (by decide +kernel)⟩
theorem lw_p132 : lw_okq (⟨"DeafBellsModel", "keeps", "(I)I"⟩, 67) := ⟨⟨by decide +kernel, by decide +kernel⟩, List.mem_of_getElem? (i := 1230) (by decide +kernel), List.mem_of_getElem? (i := 1926) (by decide +kernel), List.mem_of_getElem? (i := 1927) (by decide +kernel)⟩
theorem lw_p133 : lw_okq (⟨"DeafBellsModel", "keepsMany", "()V"⟩, 67) := ⟨⟨by decide +kernel, by decide +kernel⟩, List.mem_of_getElem? (i := 1230) (by decide +kernel), List.mem_of_getElem? (i := 1930) (by decide +kernel), List.mem_of_getElem? (i := 1931) (by decide +kernel)⟩
theorem lw_p134 : lw_okq (⟨"DeafBellsModel", "keepsTold", "()V"⟩, 67) := ⟨⟨by decide +kernel, by decide +kernel⟩, List.mem_of_getElem? (i := 1230) (by decide +kernel), List.mem_of_getElem? (i := 1934) (by decide +kernel), List.mem_of_getElem? (i := 1935) (by decide +kernel)⟩
theorem lw_p135 : lw_okq (⟨"DeafBellsModel", "keepsLaw", "()V"⟩, 67) := ⟨⟨by decide +kernel, by decide +kernel⟩, List.mem_of_getElem? (i := 1230) (by decide +kernel), List.mem_of_getElem? (i := 1938) (by decide +kernel), List.mem_of_getElem? (i := 1939) (by decide +kernel)⟩
def lw_privs_9 : List (MethodName × Nat) := [(⟨"DeafBellsModel", "isBeating", "(I)Z"⟩, 67), (⟨"DeafBellsModel", "opinionOf", "(I)I"⟩, 67), (⟨"DeafBellsModel", "swings", "(I)I"⟩, 67), (⟨"DeafBellsModel", "findsNimbers", "()V"⟩, 67), (⟨"DeafBellsModel", "keeps", "(I)I"⟩, 67), (⟨"DeafBellsModel", "keepsMany", "()V"⟩, 67), (⟨"DeafBellsModel", "keepsTold", "()V"⟩, 67), (⟨"DeafBellsModel", "keepsLaw", "()V"⟩, 67)]
theorem lw_r9 : ∀ q ∈ lw_privs_9, lw_okq q := List.forall_mem_cons.mpr ⟨lw_p128, List.forall_mem_cons.mpr ⟨lw_p129, List.forall_mem_cons.mpr ⟨lw_p130, List.forall_mem_cons.mpr ⟨lw_p131, List.forall_mem_cons.mpr ⟨lw_p132, List.forall_mem_cons.mpr ⟨lw_p133, List.forall_mem_cons.mpr ⟨lw_p134, List.forall_mem_cons.mpr ⟨lw_p135, fun _ h => absurd h List.not_mem_nil⟩⟩⟩⟩⟩⟩⟩⟩
def lw_privs : List (MethodName × Nat) := lw_privs_1 ++ (lw_privs_2 ++ (lw_privs_3 ++ (lw_privs_4 ++ (lw_privs_5 ++ (lw_privs_6 ++ (lw_privs_7 ++ (lw_privs_8 ++ (lw_privs_9))))))))
def lw_tbl : List Cond := k2_sels lw_privs ++ tables_1
theorem lw_privs_ok : ∀ q ∈ lw_privs, lw_okq q := by
  show ∀ q ∈ lw_privs_1 ++ (lw_privs_2 ++ (lw_privs_3 ++ (lw_privs_4 ++ (lw_privs_5 ++ (lw_privs_6 ++ (lw_privs_7 ++ (lw_privs_8 ++ (lw_privs_9)))))))), lw_okq q
  exact List.forall_mem_append.mpr ⟨lw_r1, List.forall_mem_append.mpr ⟨lw_r2, List.forall_mem_append.mpr ⟨lw_r3, List.forall_mem_append.mpr ⟨lw_r4, List.forall_mem_append.mpr ⟨lw_r5, List.forall_mem_append.mpr ⟨lw_r6, List.forall_mem_append.mpr ⟨lw_r7, List.forall_mem_append.mpr ⟨lw_r8, lw_r9⟩⟩⟩⟩⟩⟩⟩⟩
/-! ===== BEGIN words of one list among another's, by their places ===== -/
theorem goodIn_r {big : List Cond} (ws : List Cond) (ps : List Nat) (hp : ws = ps.filterMap (fun i => big[i]?)) (h : ws.all goodWord = true) : GoodIn big ws := by
  intro w hw
  have h1 := List.all_eq_true.mp h w hw
  rw [hp] at hw
  obtain ⟨i, -, hi⟩ := List.mem_filterMap.mp hw
  have hm : w ∈ big := by first | exact List.mem_of_getElem? hi | exact List.getElem?_mem hi
  exact ⟨hm, good_of_word h1⟩
theorem goodIn_app {big a b : List Cond} (ha : GoodIn big a) (hb : GoodIn big b) : GoodIn big (a ++ b) := fun w h => (List.mem_append.mp h).elim (ha w) (hb w)
theorem goodIn_ca {big a b : List Cond} {c : Cond} (ha : GoodIn big (c :: a)) (hb : GoodIn big b) : GoodIn big (c :: (a ++ b)) := fun w h => (List.mem_cons.mp h).elim (fun e => ha w (List.mem_cons.mpr (Or.inl e))) (fun h => (List.mem_append.mp h).elim (fun h => ha w (List.mem_cons.mpr (Or.inr h))) (hb w))
theorem goodIn_sub {big ws : List Cond} (hm : ∀ w ∈ ws, w ∈ big) (h : ws.all goodWord = true) : GoodIn big ws := fun w hw => ⟨hm w hw, good_of_word (List.all_eq_true.mp h w hw)⟩
/-! ===== END ===== -/

/-! ===== BEGIN printed: names, fields, word lists, decode rows ===== -/
def RX0 : String := "DeafBells$Book"
def TX0 : u_T := fun k => match k with
  | 0 => ("DeafBells$Book", "lines", "I", false)
  | 1 => ("DeafBells$Book", "most", "I", true)
  | _ => ("DeafBells$Book", "cells", "[I", true)
def tyX0 : Nat → FieldType := fun k => match k with
  | 0 => .int
  | 1 => .int
  | _ => .array .int
abbrev wsX00 : List Cond := u_ws RX0 TX0 3
theorem nmX0 : ∀ a, a < 3 → ∀ b, b < 3 → a ≠ b → (TX0 a).2.1 ≠ (TX0 b).2.1 := by decide +kernel
theorem tyX0_ok : ∀ k, k < 3 → parseFieldDescriptor (TX0 k).2.2.1 = some (tyX0 k) := by decide +kernel
abbrev cX0_init : ByteArray := prog_2_method_1_code
def yX0_init : MethodName := ⟨RX0, "<init>", "(I)V"⟩
abbrev cX0_write : ByteArray := prog_2_method_2_code
def yX0_write : MethodName := ⟨RX0, "write", "(IIII)V"⟩
abbrev cX0_cell : ByteArray := prog_2_method_3_code
def yX0_cell : MethodName := ⟨RX0, "cell", "(II)I"⟩
abbrev cX0_become : ByteArray := prog_2_method_4_code
def yX0_become : MethodName := ⟨RX0, "become", "(LDeafBells$Book;)V"⟩
def RX1 : String := "DeafBells$Law"
def TX1 : u_T := fun k => match k with
  | 0 => ("DeafBells$Law", "lines", "I", false)
  | 1 => ("DeafBells$Law", "used", "I", false)
  | 2 => ("DeafBells$Law", "words", "[I", true)
  | 3 => ("DeafBells$Law", "begins", "[I", true)
  | 4 => ("DeafBells$Law", "whens", "[I", true)
  | 5 => ("DeafBells$Law", "ends", "[I", true)
  | 6 => ("DeafBells$Law", "codes", "[I", true)
  | _ => ("DeafBells$Law", "stack", "[I", true)
def tyX1 : Nat → FieldType := fun k => match k with
  | 0 => .int
  | 1 => .int
  | 2 => .array .int
  | 3 => .array .int
  | 4 => .array .int
  | 5 => .array .int
  | 6 => .array .int
  | _ => .array .int
abbrev wsX10 : List Cond := u_ws RX1 TX1 8
theorem nmX1 : ∀ a, a < 8 → ∀ b, b < 8 → a ≠ b → (TX1 a).2.1 ≠ (TX1 b).2.1 := by decide +kernel
theorem tyX1_ok : ∀ k, k < 8 → parseFieldDescriptor (TX1 k).2.2.1 = some (tyX1 k) := by decide +kernel
abbrev cX1_init : ByteArray := prog_3_method_1_code
def yX1_init : MethodName := ⟨RX1, "<init>", "()V"⟩
abbrev cX1_clear : ByteArray := prog_3_method_2_code
def yX1_clear : MethodName := ⟨RX1, "clear", "()V"⟩
abbrev cX1_begin : ByteArray := prog_3_method_3_code
def yX1_begin : MethodName := ⟨RX1, "begin", "(I)V"⟩
abbrev cX1_add : ByteArray := prog_3_method_4_code
def yX1_add : MethodName := ⟨RX1, "add", "(I)V"⟩
abbrev cX1_markWhen : ByteArray := prog_3_method_5_code
def yX1_markWhen : MethodName := ⟨RX1, "markWhen", "()V"⟩
abbrev cX1_finish : ByteArray := prog_3_method_6_code
def yX1_finish : MethodName := ⟨RX1, "finish", "()V"⟩
abbrev cX1_become : ByteArray := prog_3_method_7_code
def yX1_become : MethodName := ⟨RX1, "become", "(LDeafBells$Law;)V"⟩
abbrev cX1_lineFor : ByteArray := prog_3_method_8_code
def yX1_lineFor : MethodName := ⟨RX1, "lineFor", "(I[I)I"⟩
abbrev cX1_worth : ByteArray := prog_3_method_9_code
def yX1_worth : MethodName := ⟨RX1, "worth", "(I[I)I"⟩
abbrev cX1_reckon : ByteArray := prog_3_method_10_code
def yX1_reckon : MethodName := ⟨RX1, "reckon", "(II[I)I"⟩
abbrev cX1_valueOf : ByteArray := prog_3_method_11_code
def yX1_valueOf : MethodName := ⟨RX1, "valueOf", "(I[I)I"⟩
abbrev cX1_joined : ByteArray := prog_3_method_12_code
def yX1_joined : MethodName := ⟨RX1, "joined", "(III)I"⟩
def RX2 : String := "DeafBells$Past"
def TX2 : u_T := fun k => match k with
  | 0 => ("DeafBells$Past", "count", "I", false)
  | 1 => ("DeafBells$Past", "next", "I", false)
  | 2 => ("DeafBells$Past", "towers", "[LDeafBells$Tower;", true)
  | _ => ("DeafBells$Past", "lines", "[I", true)
def tyX2 : Nat → FieldType := fun k => match k with
  | 0 => .int
  | 1 => .int
  | 2 => .array (.object "DeafBells$Tower")
  | _ => .array .int
abbrev wsX20 : List Cond := u_ws RX2 TX2 4
theorem nmX2 : ∀ a, a < 4 → ∀ b, b < 4 → a ≠ b → (TX2 a).2.1 ≠ (TX2 b).2.1 := by decide +kernel
theorem tyX2_ok : ∀ k, k < 4 → parseFieldDescriptor (TX2 k).2.2.1 = some (tyX2 k) := by decide +kernel
abbrev cX2_init : ByteArray := prog_4_method_1_code
def yX2_init : MethodName := ⟨RX2, "<init>", "()V"⟩
abbrev cX2_forget : ByteArray := prog_4_method_2_code
def yX2_forget : MethodName := ⟨RX2, "forget", "()V"⟩
abbrev cX2_keep : ByteArray := prog_4_method_3_code
def yX2_keep : MethodName := ⟨RX2, "keep", "(LDeafBells$Tower;LDeafBells$Book;)V"⟩
abbrev cX2_goBack : ByteArray := prog_4_method_4_code
def yX2_goBack : MethodName := ⟨RX2, "goBack", "(LDeafBells$Tower;LDeafBells$Book;)Z"⟩
def RX3 : String := "DeafBells$Puzzles"
def TX3 : u_T := fun k => match k with
  | 0 => ("DeafBells$Puzzles", "tower", "LDeafBells$Tower;", true)
  | 1 => ("DeafBells$Puzzles", "texts", "LDeafBells$Texts;", true)
  | 2 => ("DeafBells$Puzzles", "told", "LDeafBells$Told;", true)
  | 3 => ("DeafBells$Puzzles", "row", "[I", true)
  | 4 => ("DeafBells$Puzzles", "rowsSeen", "[I", true)
  | 5 => ("DeafBells$Puzzles", "leastHold", "[I", true)
  | 6 => ("DeafBells$Puzzles", "near", "[I", true)
  | 7 => ("DeafBells$Puzzles", "ways", "[I", true)
  | 8 => ("DeafBells$Puzzles", "waysBefore", "[I", true)
  | _ => ("DeafBells$Puzzles", "nimbers", "[I", true)
def tyX3 : Nat → FieldType := fun k => match k with
  | 0 => .object "DeafBells$Tower"
  | 1 => .object "DeafBells$Texts"
  | 2 => .object "DeafBells$Told"
  | 3 => .array .int
  | 4 => .array .int
  | 5 => .array .int
  | 6 => .array .int
  | 7 => .array .int
  | 8 => .array .int
  | _ => .array .int
abbrev wsX30 : List Cond := u_ws RX3 TX3 10
theorem nmX3 : ∀ a, a < 10 → ∀ b, b < 10 → a ≠ b → (TX3 a).2.1 ≠ (TX3 b).2.1 := by decide +kernel
theorem tyX3_ok : ∀ k, k < 10 → parseFieldDescriptor (TX3 k).2.2.1 = some (tyX3 k) := by decide +kernel
abbrev cX3_init : ByteArray := prog_5_method_1_code
def yX3_init : MethodName := ⟨RX3, "<init>", "(LDeafBells$Tower;LDeafBells$Texts;LDeafBells$Told;)V"⟩
abbrev cX3_leastBeside : ByteArray := prog_5_method_2_code
def yX3_leastBeside : MethodName := ⟨RX3, "leastBeside", "(II)I"⟩
abbrev cX3_startRounds : ByteArray := prog_5_method_3_code
def yX3_startRounds : MethodName := ⟨RX3, "startRounds", "()V"⟩
abbrev cX3_change : ByteArray := prog_5_method_4_code
def yX3_change : MethodName := ⟨RX3, "change", "(II)V"⟩
abbrev cX3_rowAsNumber : ByteArray := prog_5_method_5_code
def yX3_rowAsNumber : MethodName := ⟨RX3, "rowAsNumber", "()I"⟩
abbrev cX3_rowsToRounds : ByteArray := prog_5_method_6_code
def yX3_rowsToRounds : MethodName := ⟨RX3, "rowsToRounds", "(I)I"⟩
abbrev cX3_rowsToRepeat : ByteArray := prog_5_method_7_code
def yX3_rowsToRepeat : MethodName := ⟨RX3, "rowsToRepeat", "(I)I"⟩
abbrev cX3_bellAt : ByteArray := prog_5_method_8_code
def yX3_bellAt : MethodName := ⟨RX3, "bellAt", "(III)I"⟩
abbrev cX3_nearestSign : ByteArray := prog_5_method_9_code
def yX3_nearestSign : MethodName := ⟨RX3, "nearestSign", "(II)I"⟩
abbrev cX3_apart : ByteArray := prog_5_method_10_code
def yX3_apart : MethodName := ⟨RX3, "apart", "()I"⟩
abbrev cX3_canGoWrong : ByteArray := prog_5_method_11_code
def yX3_canGoWrong : MethodName := ⟨RX3, "canGoWrong", "()I"⟩
abbrev cX3_firstTogether : ByteArray := prog_5_method_12_code
def yX3_firstTogether : MethodName := ⟨RX3, "firstTogether", "()I"⟩
abbrev cX3_leastCommon : ByteArray := prog_5_method_13_code
def yX3_leastCommon : MethodName := ⟨RX3, "leastCommon", "(II)I"⟩
abbrev cX3_ringsAt : ByteArray := prog_5_method_14_code
def yX3_ringsAt : MethodName := ⟨RX3, "ringsAt", "(II)Z"⟩
abbrev cX3_ringAt : ByteArray := prog_5_method_15_code
def yX3_ringAt : MethodName := ⟨RX3, "ringAt", "(I)I"⟩
abbrev cX3_weakestHold : ByteArray := prog_5_method_16_code
def yX3_weakestHold : MethodName := ⟨RX3, "weakestHold", "()I"⟩
abbrev cX3_heldBy : ByteArray := prog_5_method_17_code
def yX3_heldBy : MethodName := ⟨RX3, "heldBy", "(I)I"⟩
abbrev cX3_firstBellFor : ByteArray := prog_5_method_18_code
def yX3_firstBellFor : MethodName := ⟨RX3, "firstBellFor", "(III)I"⟩
abbrev cX3_fillNear : ByteArray := prog_5_method_19_code
def yX3_fillNear : MethodName := ⟨RX3, "fillNear", "(LDeafBells$Rows;Z)V"⟩
abbrev cX3_wavesBetween : ByteArray := prog_5_method_20_code
def yX3_wavesBetween : MethodName := ⟨RX3, "wavesBetween", "(III)I"⟩
abbrev cX3_stepOn : ByteArray := prog_5_method_21_code
def yX3_stepOn : MethodName := ⟨RX3, "stepOn", "(II)I"⟩
abbrev cX3_heavyOf : ByteArray := prog_5_method_22_code
def yX3_heavyOf : MethodName := ⟨RX3, "heavyOf", "(I)I"⟩
abbrev cX3_borne : ByteArray := prog_5_method_23_code
def yX3_borne : MethodName := ⟨RX3, "borne", "(II)I"⟩
abbrev cX3_bestHours : ByteArray := prog_5_method_24_code
def yX3_bestHours : MethodName := ⟨RX3, "bestHours", "(II)I"⟩
abbrev cX3_knowNext : ByteArray := prog_5_method_25_code
def yX3_knowNext : MethodName := ⟨RX3, "knowNext", "(I)I"⟩
abbrev cX3_news : ByteArray := prog_5_method_26_code
def yX3_news : MethodName := ⟨RX3, "news", "(II)I"⟩
abbrev cX3_splits : ByteArray := prog_5_method_27_code
def yX3_splits : MethodName := ⟨RX3, "splits", "()I"⟩
abbrev cX3_knownWithout : ByteArray := prog_5_method_28_code
def yX3_knownWithout : MethodName := ⟨RX3, "knownWithout", "(I)I"⟩
abbrev cX3_weightOf : ByteArray := prog_5_method_29_code
def yX3_weightOf : MethodName := ⟨RX3, "weightOf", "(I)I"⟩
abbrev cX3_turnToBeFed : ByteArray := prog_5_method_30_code
def yX3_turnToBeFed : MethodName := ⟨RX3, "turnToBeFed", "(I)I"⟩
abbrev cX3_feedingSum : ByteArray := prog_5_method_31_code
def yX3_feedingSum : MethodName := ⟨RX3, "feedingSum", "()I"⟩
abbrev cX3_fedAt : ByteArray := prog_5_method_32_code
def yX3_fedAt : MethodName := ⟨RX3, "fedAt", "(I)I"⟩
abbrev cX3_beat : ByteArray := prog_5_method_33_code
def yX3_beat : MethodName := ⟨RX3, "beat", "(II)Z"⟩
abbrev cX3_anyBeat : ByteArray := prog_5_method_34_code
def yX3_anyBeat : MethodName := ⟨RX3, "anyBeat", "(I)Z"⟩
abbrev cX3_castAnew : ByteArray := prog_5_method_35_code
def yX3_castAnew : MethodName := ⟨RX3, "castAnew", "(I)I"⟩
abbrev cX3_opinionOfAwake : ByteArray := prog_5_method_36_code
def yX3_opinionOfAwake : MethodName := ⟨RX3, "opinionOfAwake", "()I"⟩
abbrev cX3_countSets : ByteArray := prog_5_method_37_code
def yX3_countSets : MethodName := ⟨RX3, "countSets", "(I)V"⟩
abbrev cX3_swings : ByteArray := prog_5_method_38_code
def yX3_swings : MethodName := ⟨RX3, "swings", "()I"⟩
abbrev cX3_turns : ByteArray := prog_5_method_39_code
def yX3_turns : MethodName := ⟨RX3, "turns", "(I)I"⟩
abbrev cX3_nimberOf : ByteArray := prog_5_method_40_code
def yX3_nimberOf : MethodName := ⟨RX3, "nimberOf", "(I)I"⟩
abbrev cX3_goodMove : ByteArray := prog_5_method_41_code
def yX3_goodMove : MethodName := ⟨RX3, "goodMove", "(I)I"⟩
abbrev cX3_loosedWell : ByteArray := prog_5_method_42_code
def yX3_loosedWell : MethodName := ⟨RX3, "loosedWell", "(II)I"⟩
def RX4 : String := "DeafBells$Reader"
def TX4 : u_T := fun k => match k with
  | 0 => ("DeafBells$Reader", "draft", "LDeafBells$Texts;", true)
  | 1 => ("DeafBells$Reader", "length", "I", false)
  | 2 => ("DeafBells$Reader", "fault", "I", false)
  | 3 => ("DeafBells$Reader", "place", "I", false)
  | 4 => ("DeafBells$Reader", "tape", "[I", true)
  | 5 => ("DeafBells$Reader", "kinds", "[I", true)
  | 6 => ("DeafBells$Reader", "numbers", "[I", true)
  | 7 => ("DeafBells$Reader", "places", "[I", true)
  | 8 => ("DeafBells$Reader", "tokens", "I", false)
  | 9 => ("DeafBells$Reader", "now", "I", false)
  | 10 => ("DeafBells$Reader", "number", "I", false)
  | _ => ("DeafBells$Reader", "ringers", "I", false)
def tyX4 : Nat → FieldType := fun k => match k with
  | 0 => .object "DeafBells$Texts"
  | 1 => .int
  | 2 => .int
  | 3 => .int
  | 4 => .array .int
  | 5 => .array .int
  | 6 => .array .int
  | 7 => .array .int
  | 8 => .int
  | 9 => .int
  | 10 => .int
  | _ => .int
abbrev wsX40 : List Cond := u_ws RX4 TX4 12
theorem nmX4 : ∀ a, a < 12 → ∀ b, b < 12 → a ≠ b → (TX4 a).2.1 ≠ (TX4 b).2.1 := by decide +kernel
theorem tyX4_ok : ∀ k, k < 12 → parseFieldDescriptor (TX4 k).2.2.1 = some (tyX4 k) := by decide +kernel
abbrev cX4_init : ByteArray := prog_6_method_1_code
def yX4_init : MethodName := ⟨RX4, "<init>", "()V"⟩
abbrev cX4_append : ByteArray := prog_6_method_2_code
def yX4_append : MethodName := ⟨RX4, "append", "(I)V"⟩
abbrev cX4_read : ByteArray := prog_6_method_3_code
def yX4_read : MethodName := ⟨RX4, "read", "(II)I"⟩
abbrev cX4_clearDraft : ByteArray := prog_6_method_4_code
def yX4_clearDraft : MethodName := ⟨RX4, "clearDraft", "()V"⟩
abbrev cX4_split : ByteArray := prog_6_method_5_code
def yX4_split : MethodName := ⟨RX4, "split", "()V"⟩
abbrev cX4_addToken : ByteArray := prog_6_method_6_code
def yX4_addToken : MethodName := ⟨RX4, "addToken", "(II)V"⟩
abbrev cX4_runFrom : ByteArray := prog_6_method_7_code
def yX4_runFrom : MethodName := ⟨RX4, "runFrom", "(I)I"⟩
abbrev cX4_tokenKind : ByteArray := prog_6_method_8_code
def yX4_tokenKind : MethodName := ⟨RX4, "tokenKind", "(II)I"⟩
abbrev cX4_wordKind : ByteArray := prog_6_method_9_code
def yX4_wordKind : MethodName := ⟨RX4, "wordKind", "(II)I"⟩
abbrev cX4_numberKind : ByteArray := prog_6_method_10_code
def yX4_numberKind : MethodName := ⟨RX4, "numberKind", "(II)I"⟩
abbrev cX4_isBlank : ByteArray := prog_6_method_11_code
def yX4_isBlank : MethodName := ⟨RX4, "isBlank", "(I)Z"⟩
abbrev cX4_isLetter : ByteArray := prog_6_method_12_code
def yX4_isLetter : MethodName := ⟨RX4, "isLetter", "(I)Z"⟩
abbrev cX4_isDigit : ByteArray := prog_6_method_13_code
def yX4_isDigit : MethodName := ⟨RX4, "isDigit", "(I)Z"⟩
abbrev cX4_kind : ByteArray := prog_6_method_14_code
def yX4_kind : MethodName := ⟨RX4, "kind", "()I"⟩
abbrev cX4_refuse : ByteArray := prog_6_method_15_code
def yX4_refuse : MethodName := ⟨RX4, "refuse", "(I)Z"⟩
abbrev cX4_take : ByteArray := prog_6_method_16_code
def yX4_take : MethodName := ⟨RX4, "take", "(I)Z"⟩
abbrev cX4_takeNumber : ByteArray := prog_6_method_17_code
def yX4_takeNumber : MethodName := ⟨RX4, "takeNumber", "(II)Z"⟩
abbrev cX4_mayBegin : ByteArray := prog_6_method_18_code
def yX4_mayBegin : MethodName := ⟨RX4, "mayBegin", "(I)Z"⟩
abbrev cX4_readRope : ByteArray := prog_6_method_19_code
def yX4_readRope : MethodName := ⟨RX4, "readRope", "()Z"⟩
abbrev cX4_readDay : ByteArray := prog_6_method_20_code
def yX4_readDay : MethodName := ⟨RX4, "readDay", "()Z"⟩
abbrev cX4_readChange : ByteArray := prog_6_method_21_code
def yX4_readChange : MethodName := ⟨RX4, "readChange", "()Z"⟩
abbrev cX4_readLaw : ByteArray := prog_6_method_22_code
def yX4_readLaw : MethodName := ⟨RX4, "readLaw", "()Z"⟩
abbrev cX4_readTruth : ByteArray := prog_6_method_23_code
def yX4_readTruth : MethodName := ⟨RX4, "readTruth", "(I)Z"⟩
abbrev cX4_takeNots : ByteArray := prog_6_method_24_code
def yX4_takeNots : MethodName := ⟨RX4, "takeNots", "(I)I"⟩
abbrev cX4_readInner : ByteArray := prog_6_method_25_code
def yX4_readInner : MethodName := ⟨RX4, "readInner", "(I)Z"⟩
abbrev cX4_readComparison : ByteArray := prog_6_method_26_code
def yX4_readComparison : MethodName := ⟨RX4, "readComparison", "()Z"⟩
abbrev cX4_readNumber : ByteArray := prog_6_method_27_code
def yX4_readNumber : MethodName := ⟨RX4, "readNumber", "()Z"⟩
abbrev cX4_readUnit : ByteArray := prog_6_method_28_code
def yX4_readUnit : MethodName := ⟨RX4, "readUnit", "()Z"⟩
def RX5 : String := "DeafBells$Ringing"
def TX5 : u_T := fun k => match k with
  | 0 => ("DeafBells$Ringing", "tower", "LDeafBells$Tower;", true)
  | 1 => ("DeafBells$Ringing", "book", "LDeafBells$Book;", true)
  | 2 => ("DeafBells$Ringing", "texts", "LDeafBells$Texts;", true)
  | _ => ("DeafBells$Ringing", "values", "[I", true)
def tyX5 : Nat → FieldType := fun k => match k with
  | 0 => .object "DeafBells$Tower"
  | 1 => .object "DeafBells$Book"
  | 2 => .object "DeafBells$Texts"
  | _ => .array .int
abbrev wsX50 : List Cond := u_ws RX5 TX5 4
theorem nmX5 : ∀ a, a < 4 → ∀ b, b < 4 → a ≠ b → (TX5 a).2.1 ≠ (TX5 b).2.1 := by decide +kernel
theorem tyX5_ok : ∀ k, k < 4 → parseFieldDescriptor (TX5 k).2.2.1 = some (tyX5 k) := by decide +kernel
abbrev cX5_init : ByteArray := prog_7_method_1_code
def yX5_init : MethodName := ⟨RX5, "<init>", "(LDeafBells$Tower;LDeafBells$Book;LDeafBells$Texts;)V"⟩
abbrev cX5_ask : ByteArray := prog_7_method_2_code
def yX5_ask : MethodName := ⟨RX5, "ask", "(III)I"⟩
abbrev cX5_fillValues : ByteArray := prog_7_method_3_code
def yX5_fillValues : MethodName := ⟨RX5, "fillValues", "(II)V"⟩
abbrev cX5_usual : ByteArray := prog_7_method_4_code
def yX5_usual : MethodName := ⟨RX5, "usual", "(II)I"⟩
abbrev cX5_strike : ByteArray := prog_7_method_5_code
def yX5_strike : MethodName := ⟨RX5, "strike", "(II)I"⟩
abbrev cX5_pass : ByteArray := prog_7_method_6_code
def yX5_pass : MethodName := ⟨RX5, "pass", "(Z)I"⟩
abbrev cX5_happen : ByteArray := prog_7_method_7_code
def yX5_happen : MethodName := ⟨RX5, "happen", "()V"⟩
abbrev cX5_happenOne : ByteArray := prog_7_method_8_code
def yX5_happenOne : MethodName := ⟨RX5, "happenOne", "(II)V"⟩
abbrev cX5_pullAll : ByteArray := prog_7_method_9_code
def yX5_pullAll : MethodName := ⟨RX5, "pullAll", "(Z)I"⟩
abbrev cX5_grow : ByteArray := prog_7_method_10_code
def yX5_grow : MethodName := ⟨RX5, "grow", "(I)V"⟩
def RX6 : String := "DeafBells$Rows"
def TX6 : u_T := fun k => match k with
  | 0 => ("DeafBells$Rows", "count", "I", false)
  | 1 => ("DeafBells$Rows", "most", "I", true)
  | _ => ("DeafBells$Rows", "cells", "[I", true)
def tyX6 : Nat → FieldType := fun k => match k with
  | 0 => .int
  | 1 => .int
  | _ => .array .int
abbrev wsX60 : List Cond := u_ws RX6 TX6 3
theorem nmX6 : ∀ a, a < 3 → ∀ b, b < 3 → a ≠ b → (TX6 a).2.1 ≠ (TX6 b).2.1 := by decide +kernel
theorem tyX6_ok : ∀ k, k < 3 → parseFieldDescriptor (TX6 k).2.2.1 = some (tyX6 k) := by decide +kernel
abbrev cX6_init : ByteArray := prog_8_method_1_code
def yX6_init : MethodName := ⟨RX6, "<init>", "(I)V"⟩
abbrev cX6_add : ByteArray := prog_8_method_2_code
def yX6_add : MethodName := ⟨RX6, "add", "(III)I"⟩
abbrev cX6_empty : ByteArray := prog_8_method_3_code
def yX6_empty : MethodName := ⟨RX6, "empty", "()I"⟩
abbrev cX6_cell : ByteArray := prog_8_method_4_code
def yX6_cell : MethodName := ⟨RX6, "cell", "(II)I"⟩
abbrev cX6_become : ByteArray := prog_8_method_5_code
def yX6_become : MethodName := ⟨RX6, "become", "(LDeafBells$Rows;)V"⟩
def RX7 : String := "DeafBells$Texts"
def TX7 : u_T := fun k => match k with
  | 0 => ("DeafBells$Texts", "law", "LDeafBells$Law;", true)
  | 1 => ("DeafBells$Texts", "ropes", "LDeafBells$Rows;", true)
  | 2 => ("DeafBells$Texts", "days", "LDeafBells$Rows;", true)
  | _ => ("DeafBells$Texts", "changes", "LDeafBells$Rows;", true)
def tyX7 : Nat → FieldType := fun k => match k with
  | 0 => .object "DeafBells$Law"
  | 1 => .object "DeafBells$Rows"
  | 2 => .object "DeafBells$Rows"
  | _ => .object "DeafBells$Rows"
abbrev wsX70 : List Cond := u_ws RX7 TX7 4
theorem nmX7 : ∀ a, a < 4 → ∀ b, b < 4 → a ≠ b → (TX7 a).2.1 ≠ (TX7 b).2.1 := by decide +kernel
theorem tyX7_ok : ∀ k, k < 4 → parseFieldDescriptor (TX7 k).2.2.1 = some (tyX7 k) := by decide +kernel
abbrev cX7_init : ByteArray := prog_9_method_1_code
def yX7_init : MethodName := ⟨RX7, "<init>", "()V"⟩
abbrev cX7_become : ByteArray := prog_9_method_2_code
def yX7_become : MethodName := ⟨RX7, "become", "(LDeafBells$Texts;)V"⟩
abbrev cX7_becomeOne : ByteArray := prog_9_method_3_code
def yX7_becomeOne : MethodName := ⟨RX7, "becomeOne", "(ILDeafBells$Texts;)V"⟩
abbrev cX7_feltBy : ByteArray := prog_9_method_4_code
def yX7_feltBy : MethodName := ⟨RX7, "feltBy", "(I)I"⟩
def RX8 : String := "DeafBells$Told"
def TX8 : u_T := fun k => match k with
  | 0 => ("DeafBells$Told", "signs", "LDeafBells$Rows;", true)
  | 1 => ("DeafBells$Told", "rounds", "LDeafBells$Rows;", true)
  | 2 => ("DeafBells$Told", "sees", "LDeafBells$Rows;", true)
  | 3 => ("DeafBells$Told", "pigeons", "LDeafBells$Rows;", true)
  | 4 => ("DeafBells$Told", "couples", "LDeafBells$Rows;", true)
  | 5 => ("DeafBells$Told", "holds", "[I", true)
  | _ => ("DeafBells$Told", "opinions", "[I", true)
def tyX8 : Nat → FieldType := fun k => match k with
  | 0 => .object "DeafBells$Rows"
  | 1 => .object "DeafBells$Rows"
  | 2 => .object "DeafBells$Rows"
  | 3 => .object "DeafBells$Rows"
  | 4 => .object "DeafBells$Rows"
  | 5 => .array .int
  | _ => .array .int
abbrev wsX80 : List Cond := u_ws RX8 TX8 7
theorem nmX8 : ∀ a, a < 7 → ∀ b, b < 7 → a ≠ b → (TX8 a).2.1 ≠ (TX8 b).2.1 := by decide +kernel
theorem tyX8_ok : ∀ k, k < 7 → parseFieldDescriptor (TX8 k).2.2.1 = some (tyX8 k) := by decide +kernel
abbrev cX8_init : ByteArray := prog_10_method_1_code
def yX8_init : MethodName := ⟨RX8, "<init>", "()V"⟩
abbrev cX8_become : ByteArray := prog_10_method_2_code
def yX8_become : MethodName := ⟨RX8, "become", "(LDeafBells$Told;)V"⟩
abbrev cX8_holdOf : ByteArray := prog_10_method_3_code
def yX8_holdOf : MethodName := ⟨RX8, "holdOf", "(II)I"⟩
def RX9 : String := "DeafBells$Tower"
def TX9 : u_T := fun k => match k with
  | 0 => ("DeafBells$Tower", "state", "I", false)
  | 1 => ("DeafBells$Tower", "folk", "I", false)
  | 2 => ("DeafBells$Tower", "draught", "I", false)
  | 3 => ("DeafBells$Tower", "sway", "I", false)
  | 4 => ("DeafBells$Tower", "hour", "I", false)
  | 5 => ("DeafBells$Tower", "ringers", "I", false)
  | 6 => ("DeafBells$Tower", "awake", "I", false)
  | 7 => ("DeafBells$Tower", "heavy", "[I", true)
  | 8 => ("DeafBells$Tower", "strokes", "[I", true)
  | 9 => ("DeafBells$Tower", "bellOf", "[I", true)
  | 10 => ("DeafBells$Tower", "feel", "[I", true)
  | 11 => ("DeafBells$Tower", "arm", "[I", true)
  | 12 => ("DeafBells$Tower", "hunger", "[I", true)
  | _ => ("DeafBells$Tower", "tired", "[I", true)
def tyX9 : Nat → FieldType := fun k => match k with
  | 0 => .int
  | 1 => .int
  | 2 => .int
  | 3 => .int
  | 4 => .int
  | 5 => .int
  | 6 => .int
  | 7 => .array .int
  | 8 => .array .int
  | 9 => .array .int
  | 10 => .array .int
  | 11 => .array .int
  | 12 => .array .int
  | _ => .array .int
abbrev wsX90 : List Cond := u_ws RX9 TX9 14
theorem nmX9 : ∀ a, a < 14 → ∀ b, b < 14 → a ≠ b → (TX9 a).2.1 ≠ (TX9 b).2.1 := by decide +kernel
theorem tyX9_ok : ∀ k, k < 14 → parseFieldDescriptor (TX9 k).2.2.1 = some (tyX9 k) := by decide +kernel
abbrev cX9_init : ByteArray := prog_11_method_1_code
def yX9_init : MethodName := ⟨RX9, "<init>", "()V"⟩
abbrev cX9_become : ByteArray := prog_11_method_2_code
def yX9_become : MethodName := ⟨RX9, "become", "(LDeafBells$Tower;)V"⟩
abbrev cX9_come : ByteArray := prog_11_method_3_code
def yX9_come : MethodName := ⟨RX9, "come", "(III)I"⟩
abbrev cX9_has : ByteArray := prog_11_method_4_code
def yX9_has : MethodName := ⟨RX9, "has", "(I)Z"⟩
abbrev cX9_isAwake : ByteArray := prog_11_method_5_code
def yX9_isAwake : MethodName := ⟨RX9, "isAwake", "(I)Z"⟩
abbrev cX9_wake : ByteArray := prog_11_method_6_code
def yX9_wake : MethodName := ⟨RX9, "wake", "(I)V"⟩
abbrev cX9_sleep : ByteArray := prog_11_method_7_code
def yX9_sleep : MethodName := ⟨RX9, "sleep", "(I)V"⟩
abbrev cX9_draw : ByteArray := prog_11_method_8_code
def yX9_draw : MethodName := ⟨RX9, "draw", "(I)I"⟩
abbrev cX9_allStrokes : ByteArray := prog_11_method_9_code
def yX9_allStrokes : MethodName := ⟨RX9, "allStrokes", "()I"⟩
def RX10 : String := "DeafBells$World"
def TX10 : u_T := fun k => match k with
  | 0 => ("DeafBells$World", "tower", "LDeafBells$Tower;", true)
  | 1 => ("DeafBells$World", "book", "LDeafBells$Book;", true)
  | 2 => ("DeafBells$World", "texts", "LDeafBells$Texts;", true)
  | _ => ("DeafBells$World", "told", "LDeafBells$Told;", true)
def tyX10 : Nat → FieldType := fun k => match k with
  | 0 => .object "DeafBells$Tower"
  | 1 => .object "DeafBells$Book"
  | 2 => .object "DeafBells$Texts"
  | _ => .object "DeafBells$Told"
abbrev wsX100 : List Cond := u_ws RX10 TX10 4
theorem nmX10 : ∀ a, a < 4 → ∀ b, b < 4 → a ≠ b → (TX10 a).2.1 ≠ (TX10 b).2.1 := by decide +kernel
theorem tyX10_ok : ∀ k, k < 4 → parseFieldDescriptor (TX10 k).2.2.1 = some (tyX10 k) := by decide +kernel
abbrev cX10_init : ByteArray := prog_12_method_1_code
def yX10_init : MethodName := ⟨RX10, "<init>", "()V"⟩
abbrev cX10_become : ByteArray := prog_12_method_2_code
def yX10_become : MethodName := ⟨RX10, "become", "(LDeafBells$World;)V"⟩
def RX11 : String := "DeafBells"
def TX11 : u_T := fun k => match k with
  | 0 => ("DeafBells", "world", "LDeafBells$World;", true)
  | 1 => ("DeafBells", "past", "LDeafBells$Past;", true)
  | 2 => ("DeafBells", "reader", "LDeafBells$Reader;", true)
  | 3 => ("DeafBells", "ringing", "LDeafBells$Ringing;", true)
  | 4 => ("DeafBells", "inThought", "LDeafBells$Ringing;", true)
  | 5 => ("DeafBells", "puzzles", "LDeafBells$Puzzles;", true)
  | _ => ("DeafBells", "kept", "LDeafBells$World;", false)
def tyX11 : Nat → FieldType := fun k => match k with
  | 0 => .object "DeafBells$World"
  | 1 => .object "DeafBells$Past"
  | 2 => .object "DeafBells$Reader"
  | 3 => .object "DeafBells$Ringing"
  | 4 => .object "DeafBells$Ringing"
  | 5 => .object "DeafBells$Puzzles"
  | _ => .object "DeafBells$World"
abbrev wsX110 : List Cond := u_ws RX11 TX11 7
theorem nmX11 : ∀ a, a < 7 → ∀ b, b < 7 → a ≠ b → (TX11 a).2.1 ≠ (TX11 b).2.1 := by decide +kernel
theorem tyX11_ok : ∀ k, k < 7 → parseFieldDescriptor (TX11 k).2.2.1 = some (tyX11 k) := by decide +kernel
abbrev cX11_init : ByteArray := prog_1_method_1_code
def yX11_init : MethodName := ⟨RX11, "<init>", "()V"⟩
abbrev cX11_state : ByteArray := prog_1_method_2_code
def yX11_state : MethodName := ⟨RX11, "state", "(I)I"⟩
abbrev cX11_ringer : ByteArray := prog_1_method_3_code
def yX11_ringer : MethodName := ⟨RX11, "ringer", "(III)I"⟩
abbrev cX11_set : ByteArray := prog_1_method_4_code
def yX11_set : MethodName := ⟨RX11, "set", "(III)Z"⟩
abbrev cX11_toldOfTower : ByteArray := prog_1_method_5_code
def yX11_toldOfTower : MethodName := ⟨RX11, "toldOfTower", "(III)Z"⟩
abbrev cX11_toldOfRinger : ByteArray := prog_1_method_6_code
def yX11_toldOfRinger : MethodName := ⟨RX11, "toldOfRinger", "(III)Z"⟩
abbrev cX11_pull : ByteArray := prog_1_method_7_code
def yX11_pull : MethodName := ⟨RX11, "pull", "(I)I"⟩
abbrev cX11_act : ByteArray := prog_1_method_8_code
def yX11_act : MethodName := ⟨RX11, "act", "(II)Z"⟩
abbrev cX11_hours : ByteArray := prog_1_method_9_code
def yX11_hours : MethodName := ⟨RX11, "hours", "(I)I"⟩
abbrev cX11_feed : ByteArray := prog_1_method_10_code
def yX11_feed : MethodName := ⟨RX11, "feed", "(IIIII)I"⟩
abbrev cX11_end : ByteArray := prog_1_method_11_code
def yX11_end : MethodName := ⟨RX11, "end", "(I)Z"⟩
abbrev cX11_text : ByteArray := prog_1_method_12_code
def yX11_text : MethodName := ⟨RX11, "text", "(I)I"⟩
abbrev cX11_fault : ByteArray := prog_1_method_13_code
def yX11_fault : MethodName := ⟨RX11, "fault", "(I)I"⟩
abbrev cX11_of : ByteArray := prog_1_method_14_code
def yX11_of : MethodName := ⟨RX11, "of", "(II)I"⟩
abbrev cX11_bell : ByteArray := prog_1_method_15_code
def yX11_bell : MethodName := ⟨RX11, "bell", "(II)I"⟩
abbrev cX11_lost : ByteArray := prog_1_method_16_code
def yX11_lost : MethodName := ⟨RX11, "lost", "()I"⟩
abbrev cX11_book : ByteArray := prog_1_method_17_code
def yX11_book : MethodName := ⟨RX11, "book", "(II)I"⟩
abbrev cX11_goes : ByteArray := prog_1_method_18_code
def yX11_goes : MethodName := ⟨RX11, "goes", "(II)I"⟩
abbrev cX11_peal : ByteArray := prog_1_method_19_code
def yX11_peal : MethodName := ⟨RX11, "peal", "(II)I"⟩
abbrev cX11_row : ByteArray := prog_1_method_20_code
def yX11_row : MethodName := ⟨RX11, "row", "(III)I"⟩
abbrev cX11_sign : ByteArray := prog_1_method_21_code
def yX11_sign : MethodName := ⟨RX11, "sign", "(II)I"⟩
abbrev cX11_meant : ByteArray := prog_1_method_22_code
def yX11_meant : MethodName := ⟨RX11, "meant", "(II)I"⟩
abbrev cX11_round : ByteArray := prog_1_method_23_code
def yX11_round : MethodName := ⟨RX11, "round", "(II)I"⟩
abbrev cX11_together : ByteArray := prog_1_method_24_code
def yX11_together : MethodName := ⟨RX11, "together", "(I)I"⟩
abbrev cX11_hold : ByteArray := prog_1_method_25_code
def yX11_hold : MethodName := ⟨RX11, "hold", "(III)Z"⟩
abbrev cX11_holds : ByteArray := prog_1_method_26_code
def yX11_holds : MethodName := ⟨RX11, "holds", "(I)I"⟩
abbrev cX11_see : ByteArray := prog_1_method_27_code
def yX11_see : MethodName := ⟨RX11, "see", "(II)I"⟩
abbrev cX11_waves : ByteArray := prog_1_method_28_code
def yX11_waves : MethodName := ⟨RX11, "waves", "(III)I"⟩
abbrev cX11_bears : ByteArray := prog_1_method_29_code
def yX11_bears : MethodName := ⟨RX11, "bears", "(II)I"⟩
abbrev cX11_pigeon : ByteArray := prog_1_method_30_code
def yX11_pigeon : MethodName := ⟨RX11, "pigeon", "(I)I"⟩
abbrev cX11_best : ByteArray := prog_1_method_31_code
def yX11_best : MethodName := ⟨RX11, "best", "(II)I"⟩
abbrev cX11_stranger : ByteArray := prog_1_method_32_code
def yX11_stranger : MethodName := ⟨RX11, "stranger", "(II)I"⟩
abbrev cX11_heard : ByteArray := prog_1_method_33_code
def yX11_heard : MethodName := ⟨RX11, "heard", "(II)I"⟩
abbrev cX11_feeds : ByteArray := prog_1_method_34_code
def yX11_feeds : MethodName := ⟨RX11, "feeds", "(I)I"⟩
abbrev cX11_casts : ByteArray := prog_1_method_35_code
def yX11_casts : MethodName := ⟨RX11, "casts", "(I)I"⟩
abbrev cX11_opinion : ByteArray := prog_1_method_36_code
def yX11_opinion : MethodName := ⟨RX11, "opinion", "(II)Z"⟩
abbrev cX11_peals : ByteArray := prog_1_method_37_code
def yX11_peals : MethodName := ⟨RX11, "peals", "(I)I"⟩
abbrev cX11_game : ByteArray := prog_1_method_38_code
def yX11_game : MethodName := ⟨RX11, "game", "(I)I"⟩
abbrev cX11_undo : ByteArray := prog_1_method_39_code
def yX11_undo : MethodName := ⟨RX11, "undo", "()Z"⟩
abbrev cX11_image : ByteArray := prog_1_method_40_code
def yX11_image : MethodName := ⟨RX11, "image", "(Z)Z"⟩
abbrev cX11_look : ByteArray := prog_1_method_41_code
def yX11_look : MethodName := ⟨RX11, "look", "(I)I"⟩
abbrev cX11_within : ByteArray := prog_1_method_42_code
def yX11_within : MethodName := ⟨RX11, "within", "(III)Z"⟩
abbrev cX11_held : ByteArray := prog_1_method_43_code
def yX11_held : MethodName := ⟨RX11, "held", "(III)I"⟩
abbrev cX11_isIn : ByteArray := prog_1_method_44_code
def yX11_isIn : MethodName := ⟨RX11, "isIn", "(II)Z"⟩
abbrev cX11_copy : ByteArray := prog_1_method_45_code
def yX11_copy : MethodName := ⟨RX11, "copy", "([I[I)V"⟩
def RX12 : String := "DeafBellsModel"
def TX12 : u_T := fun k => match k with
  | 0 => ("DeafBellsModel", "told", "I", false)
  | 1 => ("DeafBellsModel", "now", "[I", true)
  | 2 => ("DeafBellsModel", "rows", "[I", true)
  | 3 => ("DeafBellsModel", "undoable", "I", false)
  | 4 => ("DeafBellsModel", "waiting", "[I", true)
  | 5 => ("DeafBellsModel", "isThought", "Z", false)
  | 6 => ("DeafBellsModel", "heavyBut", "[I", true)
  | 7 => ("DeafBellsModel", "ringers", "I", false)
  | 8 => ("DeafBellsModel", "bell", "[I", true)
  | 9 => ("DeafBellsModel", "feel", "[I", true)
  | 10 => ("DeafBellsModel", "arm", "[I", true)
  | 11 => ("DeafBellsModel", "book", "[I", true)
  | 12 => ("DeafBellsModel", "tape", "[I", true)
  | 13 => ("DeafBellsModel", "taped", "I", false)
  | 14 => ("DeafBellsModel", "spot", "I", false)
  | 15 => ("DeafBellsModel", "from", "I", false)
  | 16 => ("DeafBellsModel", "token", "I", false)
  | 17 => ("DeafBellsModel", "value", "I", false)
  | 18 => ("DeafBellsModel", "words", "[I", true)
  | 19 => ("DeafBellsModel", "lineMany", "[I", true)
  | 20 => ("DeafBellsModel", "lineWord", "[I", true)
  | 21 => ("DeafBellsModel", "lineFrom", "[I", true)
  | 22 => ("DeafBellsModel", "lineWhen", "[I", true)
  | 23 => ("DeafBellsModel", "lineTo", "[I", true)
  | 24 => ("DeafBellsModel", "op", "[I", true)
  | 25 => ("DeafBellsModel", "arg", "[I", true)
  | 26 => ("DeafBellsModel", "which", "I", false)
  | 27 => ("DeafBellsModel", "codes", "I", false)
  | 28 => ("DeafBellsModel", "open", "I", false)
  | 29 => ("DeafBellsModel", "pending", "[I", true)
  | 30 => ("DeafBellsModel", "pendings", "I", false)
  | 31 => ("DeafBellsModel", "readFault", "I", false)
  | 32 => ("DeafBellsModel", "readPlace", "I", false)
  | 33 => ("DeafBellsModel", "faultKind", "I", false)
  | 34 => ("DeafBellsModel", "faultPlace", "I", false)
  | 35 => ("DeafBellsModel", "ropeMany", "I", false)
  | 36 => ("DeafBellsModel", "feels", "[I", true)
  | 37 => ("DeafBellsModel", "dayMany", "I", false)
  | 38 => ("DeafBellsModel", "days", "[I", true)
  | 39 => ("DeafBellsModel", "changeMany", "I", false)
  | 40 => ("DeafBellsModel", "changes", "[I", true)
  | 41 => ("DeafBellsModel", "asked", "[I", true)
  | 42 => ("DeafBellsModel", "stack", "[I", true)
  | 43 => ("DeafBellsModel", "pulledNow", "I", false)
  | 44 => ("DeafBellsModel", "peal", "[I", true)
  | 45 => ("DeafBellsModel", "signMany", "I", false)
  | 46 => ("DeafBellsModel", "signStrokes", "[I", true)
  | 47 => ("DeafBellsModel", "signMeant", "[I", true)
  | 48 => ("DeafBellsModel", "roundMany", "I", false)
  | 49 => ("DeafBellsModel", "roundHours", "[I", true)
  | 50 => ("DeafBellsModel", "roundFirst", "[I", true)
  | 51 => ("DeafBellsModel", "holding", "[I", true)
  | 52 => ("DeafBellsModel", "heldFrom", "[I", true)
  | 53 => ("DeafBellsModel", "seeMany", "I", false)
  | 54 => ("DeafBellsModel", "sees", "[I", true)
  | 55 => ("DeafBellsModel", "waysTo", "[I", true)
  | 56 => ("DeafBellsModel", "waysThen", "[I", true)
  | 57 => ("DeafBellsModel", "pigeonMany", "I", false)
  | 58 => ("DeafBellsModel", "pigeons", "[I", true)
  | 59 => ("DeafBellsModel", "strangerMany", "I", false)
  | 60 => ("DeafBellsModel", "tells", "[I", true)
  | 61 => ("DeafBellsModel", "opinions", "[I", true)
  | 62 => ("DeafBellsModel", "nimbers", "[I", true)
  | 63 => ("DeafBellsModel", "isTaking", "Z", false)
  | 64 => ("DeafBellsModel", "hasImage", "Z", false)
  | 65 => ("DeafBellsModel", "keptAt", "I", false)
  | _ => ("DeafBellsModel", "images", "[I", true)
def tyX12 : Nat → FieldType := fun k => match k with
  | 0 => .int
  | 1 => .array .int
  | 2 => .array .int
  | 3 => .int
  | 4 => .array .int
  | 5 => .boolean
  | 6 => .array .int
  | 7 => .int
  | 8 => .array .int
  | 9 => .array .int
  | 10 => .array .int
  | 11 => .array .int
  | 12 => .array .int
  | 13 => .int
  | 14 => .int
  | 15 => .int
  | 16 => .int
  | 17 => .int
  | 18 => .array .int
  | 19 => .array .int
  | 20 => .array .int
  | 21 => .array .int
  | 22 => .array .int
  | 23 => .array .int
  | 24 => .array .int
  | 25 => .array .int
  | 26 => .int
  | 27 => .int
  | 28 => .int
  | 29 => .array .int
  | 30 => .int
  | 31 => .int
  | 32 => .int
  | 33 => .int
  | 34 => .int
  | 35 => .int
  | 36 => .array .int
  | 37 => .int
  | 38 => .array .int
  | 39 => .int
  | 40 => .array .int
  | 41 => .array .int
  | 42 => .array .int
  | 43 => .int
  | 44 => .array .int
  | 45 => .int
  | 46 => .array .int
  | 47 => .array .int
  | 48 => .int
  | 49 => .array .int
  | 50 => .array .int
  | 51 => .array .int
  | 52 => .array .int
  | 53 => .int
  | 54 => .array .int
  | 55 => .array .int
  | 56 => .array .int
  | 57 => .int
  | 58 => .array .int
  | 59 => .int
  | 60 => .array .int
  | 61 => .array .int
  | 62 => .array .int
  | 63 => .boolean
  | 64 => .boolean
  | 65 => .int
  | _ => .array .int
abbrev wsX120 : List Cond := u_ws RX12 TX12 67
theorem nmX12 : ∀ a, a < 67 → ∀ b, b < 67 → a ≠ b → (TX12 a).2.1 ≠ (TX12 b).2.1 := by decide +kernel
theorem tyX12_ok : ∀ k, k < 67 → parseFieldDescriptor (TX12 k).2.2.1 = some (tyX12 k) := by decide +kernel
abbrev cX12_init : ByteArray := prog_14_method_1_code
def yX12_init : MethodName := ⟨RX12, "<init>", "()V"⟩
abbrev cX12_isIn : ByteArray := prog_14_method_3_code
def yX12_isIn : MethodName := ⟨RX12, "isIn", "(III)Z"⟩
abbrev cX12_held : ByteArray := prog_14_method_4_code
def yX12_held : MethodName := ⟨RX12, "held", "(III)I"⟩
abbrev cX12_greater : ByteArray := prog_14_method_5_code
def yX12_greater : MethodName := ⟨RX12, "greater", "(II)I"⟩
abbrev cX12_lesser : ByteArray := prog_14_method_6_code
def yX12_lesser : MethodName := ⟨RX12, "lesser", "(II)I"⟩
abbrev cX12_onesOf : ByteArray := prog_14_method_7_code
def yX12_onesOf : MethodName := ⟨RX12, "onesOf", "(I)I"⟩
abbrev cX12_has : ByteArray := prog_14_method_8_code
def yX12_has : MethodName := ⟨RX12, "has", "(II)Z"⟩
abbrev cX12_keepsAhead : ByteArray := prog_14_method_9_code
def yX12_keepsAhead : MethodName := ⟨RX12, "keepsAhead", "()V"⟩
abbrev cX12_undo : ByteArray := prog_14_method_10_code
def yX12_undo : MethodName := ⟨RX12, "undo", "()Z"⟩
abbrev cX12_thinks : ByteArray := prog_14_method_11_code
def yX12_thinks : MethodName := ⟨RX12, "thinks", "()V"⟩
abbrev cX12_endsThought : ByteArray := prog_14_method_12_code
def yX12_endsThought : MethodName := ⟨RX12, "endsThought", "()V"⟩
abbrev cX12_state : ByteArray := prog_14_method_13_code
def yX12_state : MethodName := ⟨RX12, "state", "(I)I"⟩
abbrev cX12_draw : ByteArray := prog_14_method_14_code
def yX12_draw : MethodName := ⟨RX12, "draw", "(I)I"⟩
abbrev cX12_heavy : ByteArray := prog_14_method_15_code
def yX12_heavy : MethodName := ⟨RX12, "heavy", "(I)I"⟩
abbrev cX12_isBell : ByteArray := prog_14_method_16_code
def yX12_isBell : MethodName := ⟨RX12, "isBell", "(I)Z"⟩
abbrev cX12_isRinger : ByteArray := prog_14_method_17_code
def yX12_isRinger : MethodName := ⟨RX12, "isRinger", "(I)Z"⟩
abbrev cX12_isAwake : ByteArray := prog_14_method_18_code
def yX12_isAwake : MethodName := ⟨RX12, "isAwake", "(I)Z"⟩
abbrev cX12_awakeSet : ByteArray := prog_14_method_19_code
def yX12_awakeSet : MethodName := ⟨RX12, "awakeSet", "()I"⟩
abbrev cX12_ringer : ByteArray := prog_14_method_20_code
def yX12_ringer : MethodName := ⟨RX12, "ringer", "(III)I"⟩
abbrev cX12_canSet : ByteArray := prog_14_method_21_code
def yX12_canSet : MethodName := ⟨RX12, "canSet", "(III)Z"⟩
abbrev cX12_set : ByteArray := prog_14_method_22_code
def yX12_set : MethodName := ⟨RX12, "set", "(III)Z"⟩
abbrev cX12_types : ByteArray := prog_14_method_23_code
def yX12_types : MethodName := ⟨RX12, "types", "(I)V"⟩
abbrev cX12_feed : ByteArray := prog_14_method_24_code
def yX12_feed : MethodName := ⟨RX12, "feed", "(IIIII)I"⟩
abbrev cX12_end : ByteArray := prog_14_method_25_code
def yX12_end : MethodName := ⟨RX12, "end", "(I)Z"⟩
abbrev cX12_raw : ByteArray := prog_14_method_26_code
def yX12_raw : MethodName := ⟨RX12, "raw", "(I)I"⟩
abbrev cX12_isLetter : ByteArray := prog_14_method_27_code
def yX12_isLetter : MethodName := ⟨RX12, "isLetter", "(I)Z"⟩
abbrev cX12_isDigit : ByteArray := prog_14_method_28_code
def yX12_isDigit : MethodName := ⟨RX12, "isDigit", "(I)Z"⟩
abbrev cX12_isMarkSign : ByteArray := prog_14_method_29_code
def yX12_isMarkSign : MethodName := ⟨RX12, "isMarkSign", "(I)Z"⟩
abbrev cX12_wordAt : ByteArray := prog_14_method_30_code
def yX12_wordAt : MethodName := ⟨RX12, "wordAt", "(II)I"⟩
abbrev cX12_reads : ByteArray := prog_14_method_31_code
def yX12_reads : MethodName := ⟨RX12, "reads", "()V"⟩
abbrev cX12_errs : ByteArray := prog_14_method_32_code
def yX12_errs : MethodName := ⟨RX12, "errs", "(I)I"⟩
abbrev cX12_isWord : ByteArray := prog_14_method_33_code
def yX12_isWord : MethodName := ⟨RX12, "isWord", "(I)Z"⟩
abbrev cX12_isSign : ByteArray := prog_14_method_34_code
def yX12_isSign : MethodName := ⟨RX12, "isSign", "(I)Z"⟩
abbrev cX12_emits : ByteArray := prog_14_method_35_code
def yX12_emits : MethodName := ⟨RX12, "emits", "(II)V"⟩
abbrev cX12_canAsk : ByteArray := prog_14_method_36_code
def yX12_canAsk : MethodName := ⟨RX12, "canAsk", "(I)Z"⟩
abbrev cX12_readUnit : ByteArray := prog_14_method_37_code
def yX12_readUnit : MethodName := ⟨RX12, "readUnit", "()I"⟩
abbrev cX12_readProduct : ByteArray := prog_14_method_38_code
def yX12_readProduct : MethodName := ⟨RX12, "readProduct", "()I"⟩
abbrev cX12_readSum : ByteArray := prog_14_method_39_code
def yX12_readSum : MethodName := ⟨RX12, "readSum", "()I"⟩
abbrev cX12_readCompared : ByteArray := prog_14_method_40_code
def yX12_readCompared : MethodName := ⟨RX12, "readCompared", "()I"⟩
abbrev cX12_waits : ByteArray := prog_14_method_41_code
def yX12_waits : MethodName := ⟨RX12, "waits", "(I)V"⟩
abbrev cX12_settles : ByteArray := prog_14_method_42_code
def yX12_settles : MethodName := ⟨RX12, "settles", "(I)V"⟩
abbrev cX12_readAny : ByteArray := prog_14_method_43_code
def yX12_readAny : MethodName := ⟨RX12, "readAny", "()I"⟩
abbrev cX12_isLineWord : ByteArray := prog_14_method_44_code
def yX12_isLineWord : MethodName := ⟨RX12, "isLineWord", "()Z"⟩
abbrev cX12_readLaw : ByteArray := prog_14_method_45_code
def yX12_readLaw : MethodName := ⟨RX12, "readLaw", "()I"⟩
abbrev cX12_takesLaw : ByteArray := prog_14_method_46_code
def yX12_takesLaw : MethodName := ⟨RX12, "takesLaw", "(I)V"⟩
abbrev cX12_readNumber : ByteArray := prog_14_method_47_code
def yX12_readNumber : MethodName := ⟨RX12, "readNumber", "(II)I"⟩
abbrev cX12_readMark : ByteArray := prog_14_method_48_code
def yX12_readMark : MethodName := ⟨RX12, "readMark", "(I)I"⟩
abbrev cX12_readTold : ByteArray := prog_14_method_49_code
def yX12_readTold : MethodName := ⟨RX12, "readTold", "(III)I"⟩
abbrev cX12_readRope : ByteArray := prog_14_method_50_code
def yX12_readRope : MethodName := ⟨RX12, "readRope", "()I"⟩
abbrev cX12_readRopes : ByteArray := prog_14_method_51_code
def yX12_readRopes : MethodName := ⟨RX12, "readRopes", "()I"⟩
abbrev cX12_readDay : ByteArray := prog_14_method_52_code
def yX12_readDay : MethodName := ⟨RX12, "readDay", "(I)I"⟩
abbrev cX12_readDays : ByteArray := prog_14_method_53_code
def yX12_readDays : MethodName := ⟨RX12, "readDays", "()I"⟩
abbrev cX12_readChange : ByteArray := prog_14_method_54_code
def yX12_readChange : MethodName := ⟨RX12, "readChange", "(I)I"⟩
abbrev cX12_readChanges : ByteArray := prog_14_method_55_code
def yX12_readChanges : MethodName := ⟨RX12, "readChanges", "()I"⟩
abbrev cX12_readsText : ByteArray := prog_14_method_56_code
def yX12_readsText : MethodName := ⟨RX12, "readsText", "(I)I"⟩
abbrev cX12_takesOther : ByteArray := prog_14_method_57_code
def yX12_takesOther : MethodName := ⟨RX12, "takesOther", "(II)V"⟩
abbrev cX12_text : ByteArray := prog_14_method_58_code
def yX12_text : MethodName := ⟨RX12, "text", "(I)I"⟩
abbrev cX12_fault : ByteArray := prog_14_method_59_code
def yX12_fault : MethodName := ⟨RX12, "fault", "(I)I"⟩
abbrev cX12_twoOf : ByteArray := prog_14_method_60_code
def yX12_twoOf : MethodName := ⟨RX12, "twoOf", "(III)I"⟩
abbrev cX12_runs : ByteArray := prog_14_method_61_code
def yX12_runs : MethodName := ⟨RX12, "runs", "(III)I"⟩
abbrev cX12_lineOf : ByteArray := prog_14_method_62_code
def yX12_lineOf : MethodName := ⟨RX12, "lineOf", "(I)I"⟩
abbrev cX12_asksTower : ByteArray := prog_14_method_63_code
def yX12_asksTower : MethodName := ⟨RX12, "asksTower", "()V"⟩
abbrev cX12_asks : ByteArray := prog_14_method_64_code
def yX12_asks : MethodName := ⟨RX12, "asks", "(I)V"⟩
abbrev cX12_lawTells : ByteArray := prog_14_method_65_code
def yX12_lawTells : MethodName := ⟨RX12, "lawTells", "(III)I"⟩
abbrev cX12_pullOf : ByteArray := prog_14_method_66_code
def yX12_pullOf : MethodName := ⟨RX12, "pullOf", "(I)I"⟩
abbrev cX12_hardOf : ByteArray := prog_14_method_67_code
def yX12_hardOf : MethodName := ⟨RX12, "hardOf", "(I)I"⟩
abbrev cX12_lostNow : ByteArray := prog_14_method_68_code
def yX12_lostNow : MethodName := ⟨RX12, "lostNow", "()I"⟩
abbrev cX12_notes : ByteArray := prog_14_method_69_code
def yX12_notes : MethodName := ⟨RX12, "notes", "(III)V"⟩
abbrev cX12_pulls : ByteArray := prog_14_method_70_code
def yX12_pulls : MethodName := ⟨RX12, "pulls", "(I)I"⟩
abbrev cX12_pull : ByteArray := prog_14_method_71_code
def yX12_pull : MethodName := ⟨RX12, "pull", "(I)I"⟩
abbrev cX12_act : ByteArray := prog_14_method_72_code
def yX12_act : MethodName := ⟨RX12, "act", "(II)Z"⟩
abbrev cX12_happens : ByteArray := prog_14_method_73_code
def yX12_happens : MethodName := ⟨RX12, "happens", "(II)V"⟩
abbrev cX12_rests : ByteArray := prog_14_method_74_code
def yX12_rests : MethodName := ⟨RX12, "rests", "(I)V"⟩
abbrev cX12_doesPull : ByteArray := prog_14_method_75_code
def yX12_doesPull : MethodName := ⟨RX12, "doesPull", "(I)Z"⟩
abbrev cX12_goesBy : ByteArray := prog_14_method_76_code
def yX12_goesBy : MethodName := ⟨RX12, "goesBy", "()I"⟩
abbrev cX12_hours : ByteArray := prog_14_method_77_code
def yX12_hours : MethodName := ⟨RX12, "hours", "(I)I"⟩
abbrev cX12_of : ByteArray := prog_14_method_78_code
def yX12_of : MethodName := ⟨RX12, "of", "(II)I"⟩
abbrev cX12_bell : ByteArray := prog_14_method_79_code
def yX12_bell : MethodName := ⟨RX12, "bell", "(II)I"⟩
abbrev cX12_lost : ByteArray := prog_14_method_80_code
def yX12_lost : MethodName := ⟨RX12, "lost", "()I"⟩
abbrev cX12_book : ByteArray := prog_14_method_81_code
def yX12_book : MethodName := ⟨RX12, "book", "(II)I"⟩
abbrev cX12_goes : ByteArray := prog_14_method_82_code
def yX12_goes : MethodName := ⟨RX12, "goes", "(II)I"⟩
abbrev cX12_findsRows : ByteArray := prog_14_method_83_code
def yX12_findsRows : MethodName := ⟨RX12, "findsRows", "(II)V"⟩
abbrev cX12_isSameRow : ByteArray := prog_14_method_84_code
def yX12_isSameRow : MethodName := ⟨RX12, "isSameRow", "(III)Z"⟩
abbrev cX12_longOf : ByteArray := prog_14_method_85_code
def yX12_longOf : MethodName := ⟨RX12, "longOf", "(I)I"⟩
abbrev cX12_trueOf : ByteArray := prog_14_method_86_code
def yX12_trueOf : MethodName := ⟨RX12, "trueOf", "(I)I"⟩
abbrev cX12_peal : ByteArray := prog_14_method_87_code
def yX12_peal : MethodName := ⟨RX12, "peal", "(II)I"⟩
abbrev cX12_row : ByteArray := prog_14_method_88_code
def yX12_row : MethodName := ⟨RX12, "row", "(III)I"⟩
abbrev cX12_sign : ByteArray := prog_14_method_89_code
def yX12_sign : MethodName := ⟨RX12, "sign", "(II)I"⟩
abbrev cX12_apart : ByteArray := prog_14_method_90_code
def yX12_apart : MethodName := ⟨RX12, "apart", "()I"⟩
abbrev cX12_meant : ByteArray := prog_14_method_91_code
def yX12_meant : MethodName := ⟨RX12, "meant", "(II)I"⟩
abbrev cX12_round : ByteArray := prog_14_method_92_code
def yX12_round : MethodName := ⟨RX12, "round", "(II)I"⟩
abbrev cX12_ringingAt : ByteArray := prog_14_method_93_code
def yX12_ringingAt : MethodName := ⟨RX12, "ringingAt", "(I)I"⟩
abbrev cX12_together : ByteArray := prog_14_method_94_code
def yX12_together : MethodName := ⟨RX12, "together", "(I)I"⟩
abbrev cX12_hold : ByteArray := prog_14_method_95_code
def yX12_hold : MethodName := ⟨RX12, "hold", "(III)Z"⟩
abbrev cX12_heldBy : ByteArray := prog_14_method_96_code
def yX12_heldBy : MethodName := ⟨RX12, "heldBy", "(III)I"⟩
abbrev cX12_findsHeld : ByteArray := prog_14_method_97_code
def yX12_findsHeld : MethodName := ⟨RX12, "findsHeld", "()V"⟩
abbrev cX12_holds : ByteArray := prog_14_method_98_code
def yX12_holds : MethodName := ⟨RX12, "holds", "(I)I"⟩
abbrev cX12_see : ByteArray := prog_14_method_99_code
def yX12_see : MethodName := ⟨RX12, "see", "(II)I"⟩
abbrev cX12_looksOn : ByteArray := prog_14_method_100_code
def yX12_looksOn : MethodName := ⟨RX12, "looksOn", "()V"⟩
abbrev cX12_waves : ByteArray := prog_14_method_101_code
def yX12_waves : MethodName := ⟨RX12, "waves", "(III)I"⟩
abbrev cX12_heavyOf : ByteArray := prog_14_method_102_code
def yX12_heavyOf : MethodName := ⟨RX12, "heavyOf", "(I)I"⟩
abbrev cX12_bears : ByteArray := prog_14_method_103_code
def yX12_bears : MethodName := ⟨RX12, "bears", "(II)I"⟩
abbrev cX12_pigeon : ByteArray := prog_14_method_104_code
def yX12_pigeon : MethodName := ⟨RX12, "pigeon", "(I)I"⟩
abbrev cX12_pigeonsFrom : ByteArray := prog_14_method_105_code
def yX12_pigeonsFrom : MethodName := ⟨RX12, "pigeonsFrom", "(II)I"⟩
abbrev cX12_best : ByteArray := prog_14_method_106_code
def yX12_best : MethodName := ⟨RX12, "best", "(II)I"⟩
abbrev cX12_stranger : ByteArray := prog_14_method_107_code
def yX12_stranger : MethodName := ⟨RX12, "stranger", "(II)I"⟩
abbrev cX12_toldBy : ByteArray := prog_14_method_108_code
def yX12_toldBy : MethodName := ⟨RX12, "toldBy", "(I)I"⟩
abbrev cX12_reachedFrom : ByteArray := prog_14_method_109_code
def yX12_reachedFrom : MethodName := ⟨RX12, "reachedFrom", "(II)I"⟩
abbrev cX12_doesSplit : ByteArray := prog_14_method_110_code
def yX12_doesSplit : MethodName := ⟨RX12, "doesSplit", "(I)Z"⟩
abbrev cX12_heard : ByteArray := prog_14_method_111_code
def yX12_heard : MethodName := ⟨RX12, "heard", "(II)I"⟩
abbrev cX12_needOf : ByteArray := prog_14_method_112_code
def yX12_needOf : MethodName := ⟨RX12, "needOf", "(I)I"⟩
abbrev cX12_fedAhead : ByteArray := prog_14_method_113_code
def yX12_fedAhead : MethodName := ⟨RX12, "fedAhead", "(I)I"⟩
abbrev cX12_feeds : ByteArray := prog_14_method_114_code
def yX12_feeds : MethodName := ⟨RX12, "feeds", "(I)I"⟩
abbrev cX12_isBeating : ByteArray := prog_14_method_115_code
def yX12_isBeating : MethodName := ⟨RX12, "isBeating", "(I)Z"⟩
abbrev cX12_casts : ByteArray := prog_14_method_116_code
def yX12_casts : MethodName := ⟨RX12, "casts", "(I)I"⟩
abbrev cX12_opinion : ByteArray := prog_14_method_117_code
def yX12_opinion : MethodName := ⟨RX12, "opinion", "(II)Z"⟩
abbrev cX12_opinionOf : ByteArray := prog_14_method_118_code
def yX12_opinionOf : MethodName := ⟨RX12, "opinionOf", "(I)I"⟩
abbrev cX12_swings : ByteArray := prog_14_method_119_code
def yX12_swings : MethodName := ⟨RX12, "swings", "(I)I"⟩
abbrev cX12_peals : ByteArray := prog_14_method_120_code
def yX12_peals : MethodName := ⟨RX12, "peals", "(I)I"⟩
abbrev cX12_findsNimbers : ByteArray := prog_14_method_121_code
def yX12_findsNimbers : MethodName := ⟨RX12, "findsNimbers", "()V"⟩
abbrev cX12_game : ByteArray := prog_14_method_122_code
def yX12_game : MethodName := ⟨RX12, "game", "(I)I"⟩
abbrev cX12_keeps : ByteArray := prog_14_method_123_code
def yX12_keeps : MethodName := ⟨RX12, "keeps", "(I)I"⟩
abbrev cX12_keepsLaw : ByteArray := prog_14_method_124_code
def yX12_keepsLaw : MethodName := ⟨RX12, "keepsLaw", "()V"⟩
abbrev cX12_keepsMany : ByteArray := prog_14_method_125_code
def yX12_keepsMany : MethodName := ⟨RX12, "keepsMany", "()V"⟩
abbrev cX12_keepsTold : ByteArray := prog_14_method_126_code
def yX12_keepsTold : MethodName := ⟨RX12, "keepsTold", "()V"⟩
abbrev cX12_image : ByteArray := prog_14_method_127_code
def yX12_image : MethodName := ⟨RX12, "image", "(Z)Z"⟩
abbrev cX12_look : ByteArray := prog_14_method_128_code
def yX12_look : MethodName := ⟨RX12, "look", "(I)I"⟩
def RJx145de : String := "java/io/Serializable"
def TJx145de : u_T := fun k => match k with
  | _ => ("", "", "", false)
def tyJx145de : Nat → FieldType := fun k => match k with
  | _ => .int
abbrev wsJx145de0 : List Cond := u_ws RJx145de TJx145de 0
theorem nmJx145de : ∀ a, a < 0 → ∀ b, b < 0 → a ≠ b → (TJx145de a).2.1 ≠ (TJx145de b).2.1 := by decide +kernel
theorem tyJx145de_ok : ∀ k, k < 0 → parseFieldDescriptor (TJx145de k).2.2.1 = some (tyJx145de k) := by decide +kernel
def RJx9f9b0 : String := "java/lang/CharSequence"
def TJx9f9b0 : u_T := fun k => match k with
  | _ => ("", "", "", false)
def tyJx9f9b0 : Nat → FieldType := fun k => match k with
  | _ => .int
abbrev wsJx9f9b00 : List Cond := u_ws RJx9f9b0 TJx9f9b0 0
theorem nmJx9f9b0 : ∀ a, a < 0 → ∀ b, b < 0 → a ≠ b → (TJx9f9b0 a).2.1 ≠ (TJx9f9b0 b).2.1 := by decide +kernel
theorem tyJx9f9b0_ok : ∀ k, k < 0 → parseFieldDescriptor (TJx9f9b0 k).2.2.1 = some (tyJx9f9b0 k) := by decide +kernel
def RJ11 : String := "java/lang/Character"
def TJ11 : u_T := fun k => match k with
  | _ => ("", "", "", false)
def tyJ11 : Nat → FieldType := fun k => match k with
  | _ => .int
abbrev wsJ110 : List Cond := u_ws RJ11 TJ11 0
theorem nmJ11 : ∀ a, a < 0 → ∀ b, b < 0 → a ≠ b → (TJ11 a).2.1 ≠ (TJ11 b).2.1 := by decide +kernel
theorem tyJ11_ok : ∀ k, k < 0 → parseFieldDescriptor (TJ11 k).2.2.1 = some (tyJ11 k) := by decide +kernel
abbrev cJ11_isValidCodePoint_9a6ad : ByteArray := prog_15_method_11_code
def yJ11_isValidCodePoint_9a6ad : MethodName := ⟨RJ11, "isValidCodePoint", "(I)Z"⟩
abbrev cJ11_highSurrogate_5068e : ByteArray := prog_15_method_28_code
def yJ11_highSurrogate_5068e : MethodName := ⟨RJ11, "highSurrogate", "(I)C"⟩
abbrev cJ11_lowSurrogate_5068e : ByteArray := prog_15_method_29_code
def yJ11_lowSurrogate_5068e : MethodName := ⟨RJ11, "lowSurrogate", "(I)C"⟩
def RJxb160c : String := "java/lang/Comparable"
def TJxb160c : u_T := fun k => match k with
  | _ => ("", "", "", false)
def tyJxb160c : Nat → FieldType := fun k => match k with
  | _ => .int
abbrev wsJxb160c0 : List Cond := u_ws RJxb160c TJxb160c 0
theorem nmJxb160c : ∀ a, a < 0 → ∀ b, b < 0 → a ≠ b → (TJxb160c a).2.1 ≠ (TJxb160c b).2.1 := by decide +kernel
theorem tyJxb160c_ok : ∀ k, k < 0 → parseFieldDescriptor (TJxb160c k).2.2.1 = some (tyJxb160c k) := by decide +kernel
def RJ6 : String := "java/lang/Integer"
def TJ6 : u_T := fun k => match k with
  | _ => ("", "", "", false)
def tyJ6 : Nat → FieldType := fun k => match k with
  | _ => .int
abbrev wsJ60 : List Cond := u_ws RJ6 TJ6 0
theorem nmJ6 : ∀ a, a < 0 → ∀ b, b < 0 → a ≠ b → (TJ6 a).2.1 ≠ (TJ6 b).2.1 := by decide +kernel
theorem tyJ6_ok : ∀ k, k < 0 → parseFieldDescriptor (TJ6 k).2.2.1 = some (tyJ6 k) := by decide +kernel
abbrev cJ6_lowestOneBit_0f7a4 : ByteArray := prog_16_method_46_code
def yJ6_lowestOneBit_0f7a4 : MethodName := ⟨RJ6, "lowestOneBit", "(I)I"⟩
abbrev cJ6_bitCount_0f7a4 : ByteArray := prog_16_method_49_code
def yJ6_bitCount_0f7a4 : MethodName := ⟨RJ6, "bitCount", "(I)I"⟩
def RJ9 : String := "java/lang/Math"
def TJ9 : u_T := fun k => match k with
  | _ => ("", "", "", false)
def tyJ9 : Nat → FieldType := fun k => match k with
  | _ => .int
abbrev wsJ90 : List Cond := u_ws RJ9 TJ9 0
theorem nmJ9 : ∀ a, a < 0 → ∀ b, b < 0 → a ≠ b → (TJ9 a).2.1 ≠ (TJ9 b).2.1 := by decide +kernel
theorem tyJ9_ok : ∀ k, k < 0 → parseFieldDescriptor (TJ9 k).2.2.1 = some (tyJ9 k) := by decide +kernel
abbrev cJ9_floorDiv_7cf53 : ByteArray := prog_17_method_47_code
def yJ9_floorDiv_7cf53 : MethodName := ⟨RJ9, "floorDiv", "(II)I"⟩
abbrev cJ9_floorMod_7cf53 : ByteArray := prog_17_method_50_code
def yJ9_floorMod_7cf53 : MethodName := ⟨RJ9, "floorMod", "(II)I"⟩
abbrev cJ9_max_7cf53 : ByteArray := prog_17_method_65_code
def yJ9_max_7cf53 : MethodName := ⟨RJ9, "max", "(II)I"⟩
abbrev cJ9_min_7cf53 : ByteArray := prog_17_method_69_code
def yJ9_min_7cf53 : MethodName := ⟨RJ9, "min", "(II)I"⟩
def RJ0 : String := "java/lang/String"
def TJ0 : u_T := fun k => match k with
  | _ => ("", "", "", false)
def tyJ0 : Nat → FieldType := fun k => match k with
  | _ => .int
abbrev wsJ00 : List Cond := u_ws RJ0 TJ0 0
theorem nmJ0 : ∀ a, a < 0 → ∀ b, b < 0 → a ≠ b → (TJ0 a).2.1 ≠ (TJ0 b).2.1 := by decide +kernel
theorem tyJ0_ok : ∀ k, k < 0 → parseFieldDescriptor (TJ0 k).2.2.1 = some (tyJ0 k) := by decide +kernel
abbrev cJ0_length_8abf5 : ByteArray := prog_18_method_54_code
def yJ0_length_8abf5 : MethodName := ⟨RJ0, "length", "()I"⟩
abbrev cJ0_charAt_5068e : ByteArray := prog_18_method_56_code
def yJ0_charAt_5068e : MethodName := ⟨RJ0, "charAt", "(I)C"⟩
abbrev cJ0_indexOf_0f7a4 : ByteArray := prog_18_method_79_code
def yJ0_indexOf_0f7a4 : MethodName := ⟨RJ0, "indexOf", "(I)I"⟩
abbrev cJ0_indexOf_7cf53 : ByteArray := prog_18_method_80_code
def yJ0_indexOf_7cf53 : MethodName := ⟨RJ0, "indexOf", "(II)I"⟩
abbrev cJ0_coder_7d493 : ByteArray := prog_18_method_152_code
def yJ0_coder_7d493 : MethodName := ⟨RJ0, "coder", "()B"⟩
abbrev cJ0_isLatin1_aae02 : ByteArray := prog_18_method_154_code
def yJ0_isLatin1_aae02 : MethodName := ⟨RJ0, "isLatin1", "()Z"⟩
abbrev cJ0_checkIndex_df160 : ByteArray := prog_18_method_155_code
def yJ0_checkIndex_df160 : MethodName := ⟨RJ0, "checkIndex", "(II)V"⟩
abbrev cJ0_checkBoundsBeginEnd_23922 : ByteArray := prog_18_method_158_code
def yJ0_checkBoundsBeginEnd_23922 : MethodName := ⟨RJ0, "checkBoundsBeginEnd", "(III)V"⟩
def RJ1 : String := "java/lang/StringLatin1"
def TJ1 : u_T := fun k => match k with
  | _ => ("", "", "", false)
def tyJ1 : Nat → FieldType := fun k => match k with
  | _ => .int
abbrev wsJ10 : List Cond := u_ws RJ1 TJ1 0
theorem nmJ1 : ∀ a, a < 0 → ∀ b, b < 0 → a ≠ b → (TJ1 a).2.1 ≠ (TJ1 b).2.1 := by decide +kernel
theorem tyJ1_ok : ∀ k, k < 0 → parseFieldDescriptor (TJ1 k).2.2.1 = some (tyJ1 k) := by decide +kernel
abbrev cJ1_charAt_3b067 : ByteArray := prog_19_method_2_code
def yJ1_charAt_3b067 : MethodName := ⟨RJ1, "charAt", "([BI)C"⟩
abbrev cJ1_canEncode_9a6ad : ByteArray := prog_19_method_4_code
def yJ1_canEncode_9a6ad : MethodName := ⟨RJ1, "canEncode", "(I)Z"⟩
abbrev cJ1_indexOf_4cfef : ByteArray := prog_19_method_22_code
def yJ1_indexOf_4cfef : MethodName := ⟨RJ1, "indexOf", "([BIII)I"⟩
abbrev cJ1_indexOfChar_4cfef : ByteArray := prog_19_method_23_code
def yJ1_indexOfChar_4cfef : MethodName := ⟨RJ1, "indexOfChar", "([BIII)I"⟩
def RJ2 : String := "java/lang/StringUTF16"
def TJ2 : u_T := fun k => match k with
  | _ => ("", "", "", false)
def tyJ2 : Nat → FieldType := fun k => match k with
  | _ => .int
abbrev wsJ20 : List Cond := u_ws RJ2 TJ2 0
theorem nmJ2 : ∀ a, a < 0 → ∀ b, b < 0 → a ≠ b → (TJ2 a).2.1 ≠ (TJ2 b).2.1 := by decide +kernel
theorem tyJ2_ok : ∀ k, k < 0 → parseFieldDescriptor (TJ2 k).2.2.1 = some (tyJ2 k) := by decide +kernel
abbrev cJ2_getChar_3b067 : ByteArray := prog_20_method_5_code
def yJ2_getChar_3b067 : MethodName := ⟨RJ2, "getChar", "([BI)C"⟩
abbrev cJ2_length_9d52b : ByteArray := prog_20_method_6_code
def yJ2_length_9d52b : MethodName := ⟨RJ2, "length", "([B)I"⟩
abbrev cJ2_indexOf_4cfef : ByteArray := prog_20_method_40_code
def yJ2_indexOf_4cfef : MethodName := ⟨RJ2, "indexOf", "([BIII)I"⟩
abbrev cJ2_indexOfChar_4cfef : ByteArray := prog_20_method_47_code
def yJ2_indexOfChar_4cfef : MethodName := ⟨RJ2, "indexOfChar", "([BIII)I"⟩
abbrev cJ2_indexOfCharUnsafe_4cfef : ByteArray := prog_20_method_48_code
def yJ2_indexOfCharUnsafe_4cfef : MethodName := ⟨RJ2, "indexOfCharUnsafe", "([BIII)I"⟩
abbrev cJ2_indexOfSupplementary_4cfef : ByteArray := prog_20_method_49_code
def yJ2_indexOfSupplementary_4cfef : MethodName := ⟨RJ2, "indexOfSupplementary", "([BIII)I"⟩
abbrev cJ2_charAt_3b067 : ByteArray := prog_20_method_83_code
def yJ2_charAt_3b067 : MethodName := ⟨RJ2, "charAt", "([BI)C"⟩
abbrev cJ2_checkIndex_2214a : ByteArray := prog_20_method_91_code
def yJ2_checkIndex_2214a : MethodName := ⟨RJ2, "checkIndex", "(I[B)V"⟩
abbrev cJ2_checkBoundsBeginEnd_d044e : ByteArray := prog_20_method_93_code
def yJ2_checkBoundsBeginEnd_d044e : MethodName := ⟨RJ2, "checkBoundsBeginEnd", "(II[B)V"⟩
def RJ10 : String := "java/lang/System"
def TJ10 : u_T := fun k => match k with
  | _ => ("", "", "", false)
def tyJ10 : Nat → FieldType := fun k => match k with
  | _ => .int
abbrev wsJ100 : List Cond := u_ws RJ10 TJ10 0
theorem nmJ10 : ∀ a, a < 0 → ∀ b, b < 0 → a ≠ b → (TJ10 a).2.1 ≠ (TJ10 b).2.1 := by decide +kernel
theorem tyJ10_ok : ∀ k, k < 0 → parseFieldDescriptor (TJ10 k).2.2.1 = some (tyJ10 k) := by decide +kernel
def RJxfd54e : String := "java/lang/constant/Constable"
def TJxfd54e : u_T := fun k => match k with
  | _ => ("", "", "", false)
def tyJxfd54e : Nat → FieldType := fun k => match k with
  | _ => .int
abbrev wsJxfd54e0 : List Cond := u_ws RJxfd54e TJxfd54e 0
theorem nmJxfd54e : ∀ a, a < 0 → ∀ b, b < 0 → a ≠ b → (TJxfd54e a).2.1 ≠ (TJxfd54e b).2.1 := by decide +kernel
theorem tyJxfd54e_ok : ∀ k, k < 0 → parseFieldDescriptor (TJxfd54e k).2.2.1 = some (tyJxfd54e k) := by decide +kernel
def RJx3cf43 : String := "java/lang/constant/ConstantDesc"
def TJx3cf43 : u_T := fun k => match k with
  | _ => ("", "", "", false)
def tyJx3cf43 : Nat → FieldType := fun k => match k with
  | _ => .int
abbrev wsJx3cf430 : List Cond := u_ws RJx3cf43 TJx3cf43 0
theorem nmJx3cf43 : ∀ a, a < 0 → ∀ b, b < 0 → a ≠ b → (TJx3cf43 a).2.1 ≠ (TJx3cf43 b).2.1 := by decide +kernel
theorem tyJx3cf43_ok : ∀ k, k < 0 → parseFieldDescriptor (TJx3cf43 k).2.2.1 = some (tyJx3cf43 k) := by decide +kernel
def RJ7 : String := "java/util/Arrays"
def TJ7 : u_T := fun k => match k with
  | _ => ("", "", "", false)
def tyJ7 : Nat → FieldType := fun k => match k with
  | _ => .int
abbrev wsJ70 : List Cond := u_ws RJ7 TJ7 0
theorem nmJ7 : ∀ a, a < 0 → ∀ b, b < 0 → a ≠ b → (TJ7 a).2.1 ≠ (TJ7 b).2.1 := by decide +kernel
theorem tyJ7_ok : ∀ k, k < 0 → parseFieldDescriptor (TJ7 k).2.2.1 = some (tyJ7 k) := by decide +kernel
abbrev cJ7_fill_53178 : ByteArray := prog_22_method_103_code
def yJ7_fill_53178 : MethodName := ⟨RJ7, "fill", "([II)V"⟩
def RJ3 : String := "jdk/internal/util/Preconditions"
def TJ3 : u_T := fun k => match k with
  | _ => ("", "", "", false)
def tyJ3 : Nat → FieldType := fun k => match k with
  | _ => .int
abbrev wsJ30 : List Cond := u_ws RJ3 TJ3 0
theorem nmJ3 : ∀ a, a < 0 → ∀ b, b < 0 → a ≠ b → (TJ3 a).2.1 ≠ (TJ3 b).2.1 := by decide +kernel
theorem tyJ3_ok : ∀ k, k < 0 → parseFieldDescriptor (TJ3 k).2.2.1 = some (tyJ3 k) := by decide +kernel
abbrev cJ3_checkIndex_8e157 : ByteArray := prog_23_method_11_code
def yJ3_checkIndex_8e157 : MethodName := ⟨RJ3, "checkIndex", "(IILjava/util/function/BiFunction;)I"⟩
abbrev cJ3_checkFromToIndex_8c36e : ByteArray := prog_23_method_12_code
def yJ3_checkFromToIndex_8c36e : MethodName := ⟨RJ3, "checkFromToIndex", "(IIILjava/util/function/BiFunction;)I"⟩
def RL : String := "DeafBellsLaw"
abbrev cL_law : ByteArray := code
def yL_law : MethodName := ⟨RL, "law", "([I)Z"⟩
abbrev vwCl : List vw_C := [(RX0, TX0, 3), (RX1, TX1, 8), (RX2, TX2, 4), (RX3, TX3, 10), (RX4, TX4, 12), (RX5, TX5, 4), (RX6, TX6, 3), (RX7, TX7, 4), (RX8, TX8, 7), (RX9, TX9, 14), (RX10, TX10, 4), (RX11, TX11, 7), (RX12, TX12, 67)]
/-! ===== END printed: names ===== -/
