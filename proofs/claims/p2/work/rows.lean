section
theorem z_wide : True := by
  have h := @Jvm.Stand.thenCaughtThrough
  trivial
-- ===== PART A: goes FIRST, ahead of the names: the tables' words, and 'selects' of the private methods out of them =====
/-- a private method of a class that the tables say can be made, by its rows of tables_1 -/
def lw_okq (q : MethodName × Nat) : Prop := (q.1.cls ≠ "java/lang/invoke/MethodHandle" ∧ q.1.cls ≠ "java/lang/invoke/VarHandle") ∧ Cond.instantiable q.1.cls q.2 ∈ tables_1 ∧ Cond.privateMethod q.1 ∈ tables_1 ∧ Cond.instanceMethod q.1 ∈ tables_1
theorem lw_p0 : lw_okq (⟨"ClockShares$Tape", "skipBlanks", "()V"⟩, 4) := ⟨⟨by decide +kernel, by decide +kernel⟩, List.mem_of_getElem? (i := 39) (by decide +kernel), List.mem_of_getElem? (i := 536) (by decide +kernel), List.mem_of_getElem? (i := 537) (by decide +kernel)⟩
theorem lw_p1 : lw_okq (⟨"java/lang/Throwable", "fillInStackTrace", "(I)Ljava/lang/Throwable;"⟩, 6) := ⟨⟨by decide +kernel, by decide +kernel⟩, List.mem_of_getElem? (i := 737) (by decide +kernel), List.mem_of_getElem? (i := 735) (by decide +kernel), List.mem_of_getElem? (i := 736) (by decide +kernel)⟩
theorem lw_p2 : lw_okq (⟨"ClockShares$LawReader", "readKind", "(LClockShares$Tape;)I"⟩, 6) := ⟨⟨by decide +kernel, by decide +kernel⟩, List.mem_of_getElem? (i := 60) (by decide +kernel), List.mem_of_getElem? (i := 796) (by decide +kernel), List.mem_of_getElem? (i := 797) (by decide +kernel)⟩
theorem lw_p3 : lw_okq (⟨"ClockShares$LawReader", "readCondition", "(LClockShares$Tape;I)V"⟩, 6) := ⟨⟨by decide +kernel, by decide +kernel⟩, List.mem_of_getElem? (i := 60) (by decide +kernel), List.mem_of_getElem? (i := 807) (by decide +kernel), List.mem_of_getElem? (i := 808) (by decide +kernel)⟩
theorem lw_p4 : lw_okq (⟨"ClockShares$LawReader", "readAtom", "(LClockShares$Tape;I)V"⟩, 6) := ⟨⟨by decide +kernel, by decide +kernel⟩, List.mem_of_getElem? (i := 60) (by decide +kernel), List.mem_of_getElem? (i := 811) (by decide +kernel), List.mem_of_getElem? (i := 812) (by decide +kernel)⟩
theorem lw_p5 : lw_okq (⟨"ClockShares$LawReader", "put", "(I)V"⟩, 6) := ⟨⟨by decide +kernel, by decide +kernel⟩, List.mem_of_getElem? (i := 60) (by decide +kernel), List.mem_of_getElem? (i := 816) (by decide +kernel), List.mem_of_getElem? (i := 817) (by decide +kernel)⟩
theorem lw_p6 : lw_okq (⟨"ClockShares$LawReader", "readSum", "(LClockShares$Tape;)V"⟩, 6) := ⟨⟨by decide +kernel, by decide +kernel⟩, List.mem_of_getElem? (i := 60) (by decide +kernel), List.mem_of_getElem? (i := 824) (by decide +kernel), List.mem_of_getElem? (i := 825) (by decide +kernel)⟩
theorem lw_p7 : lw_okq (⟨"ClockShares$LawReader", "readPart", "(LClockShares$Tape;)V"⟩, 6) := ⟨⟨by decide +kernel, by decide +kernel⟩, List.mem_of_getElem? (i := 60) (by decide +kernel), List.mem_of_getElem? (i := 828) (by decide +kernel), List.mem_of_getElem? (i := 829) (by decide +kernel)⟩
theorem lw_p8 : lw_okq (⟨"ClockShares", "needHour", "(I)V"⟩, 8) := ⟨⟨by decide +kernel, by decide +kernel⟩, List.mem_of_getElem? (i := 31) (by decide +kernel), List.mem_of_getElem? (i := 899) (by decide +kernel), List.mem_of_getElem? (i := 900) (by decide +kernel)⟩
theorem lw_p9 : lw_okq (⟨"ClockShares", "needFamily", "(I)V"⟩, 8) := ⟨⟨by decide +kernel, by decide +kernel⟩, List.mem_of_getElem? (i := 31) (by decide +kernel), List.mem_of_getElem? (i := 927) (by decide +kernel), List.mem_of_getElem? (i := 928) (by decide +kernel)⟩
theorem lw_p10 : lw_okq (⟨"ClockShares", "needWhat", "(II)V"⟩, 8) := ⟨⟨by decide +kernel, by decide +kernel⟩, List.mem_of_getElem? (i := 31) (by decide +kernel), List.mem_of_getElem? (i := 933) (by decide +kernel), List.mem_of_getElem? (i := 934) (by decide +kernel)⟩
theorem lw_p11 : lw_okq (⟨"ClockShares$House", "look", "(II)V"⟩, 18) := ⟨⟨by decide +kernel, by decide +kernel⟩, List.mem_of_getElem? (i := 85) (by decide +kernel), List.mem_of_getElem? (i := 980) (by decide +kernel), List.mem_of_getElem? (i := 981) (by decide +kernel)⟩
theorem lw_p12 : lw_okq (⟨"ClockShares$Law", "isTrue", "(II[I)Z"⟩, 6) := ⟨⟨by decide +kernel, by decide +kernel⟩, List.mem_of_getElem? (i := 851) (by decide +kernel), List.mem_of_getElem? (i := 995) (by decide +kernel), List.mem_of_getElem? (i := 996) (by decide +kernel)⟩
theorem lw_p13 : lw_okq (⟨"ClockShares", "needThing", "(I)V"⟩, 8) := ⟨⟨by decide +kernel, by decide +kernel⟩, List.mem_of_getElem? (i := 31) (by decide +kernel), List.mem_of_getElem? (i := 1016) (by decide +kernel), List.mem_of_getElem? (i := 1017) (by decide +kernel)⟩
theorem lw_p14 : lw_okq (⟨"ClockShares", "needOther", "(II)V"⟩, 8) := ⟨⟨by decide +kernel, by decide +kernel⟩, List.mem_of_getElem? (i := 31) (by decide +kernel), List.mem_of_getElem? (i := 1042) (by decide +kernel), List.mem_of_getElem? (i := 1043) (by decide +kernel)⟩
theorem lw_p15 : lw_okq (⟨"ClockShares", "needThat", "(Z)V"⟩, 8) := ⟨⟨by decide +kernel, by decide +kernel⟩, List.mem_of_getElem? (i := 31) (by decide +kernel), List.mem_of_getElem? (i := 1047) (by decide +kernel), List.mem_of_getElem? (i := 1048) (by decide +kernel)⟩
def lw_privs_1 : List (MethodName × Nat) := [(⟨"ClockShares$Tape", "skipBlanks", "()V"⟩, 4), (⟨"java/lang/Throwable", "fillInStackTrace", "(I)Ljava/lang/Throwable;"⟩, 6), (⟨"ClockShares$LawReader", "readKind", "(LClockShares$Tape;)I"⟩, 6), (⟨"ClockShares$LawReader", "readCondition", "(LClockShares$Tape;I)V"⟩, 6), (⟨"ClockShares$LawReader", "readAtom", "(LClockShares$Tape;I)V"⟩, 6), (⟨"ClockShares$LawReader", "put", "(I)V"⟩, 6), (⟨"ClockShares$LawReader", "readSum", "(LClockShares$Tape;)V"⟩, 6), (⟨"ClockShares$LawReader", "readPart", "(LClockShares$Tape;)V"⟩, 6), (⟨"ClockShares", "needHour", "(I)V"⟩, 8), (⟨"ClockShares", "needFamily", "(I)V"⟩, 8), (⟨"ClockShares", "needWhat", "(II)V"⟩, 8), (⟨"ClockShares$House", "look", "(II)V"⟩, 18), (⟨"ClockShares$Law", "isTrue", "(II[I)Z"⟩, 6), (⟨"ClockShares", "needThing", "(I)V"⟩, 8), (⟨"ClockShares", "needOther", "(II)V"⟩, 8), (⟨"ClockShares", "needThat", "(Z)V"⟩, 8)]
theorem lw_r1 : ∀ q ∈ lw_privs_1, lw_okq q := List.forall_mem_cons.mpr ⟨lw_p0, List.forall_mem_cons.mpr ⟨lw_p1, List.forall_mem_cons.mpr ⟨lw_p2, List.forall_mem_cons.mpr ⟨lw_p3, List.forall_mem_cons.mpr ⟨lw_p4, List.forall_mem_cons.mpr ⟨lw_p5, List.forall_mem_cons.mpr ⟨lw_p6, List.forall_mem_cons.mpr ⟨lw_p7, List.forall_mem_cons.mpr ⟨lw_p8, List.forall_mem_cons.mpr ⟨lw_p9, List.forall_mem_cons.mpr ⟨lw_p10, List.forall_mem_cons.mpr ⟨lw_p11, List.forall_mem_cons.mpr ⟨lw_p12, List.forall_mem_cons.mpr ⟨lw_p13, List.forall_mem_cons.mpr ⟨lw_p14, List.forall_mem_cons.mpr ⟨lw_p15, fun _ h => absurd h List.not_mem_nil⟩⟩⟩⟩⟩⟩⟩⟩⟩⟩⟩⟩⟩⟩⟩⟩
theorem lw_p16 : lw_okq (⟨"ClockShares", "needBetween", "(III)V"⟩, 8) := ⟨⟨by decide +kernel, by decide +kernel⟩, List.mem_of_getElem? (i := 31) (by decide +kernel), List.mem_of_getElem? (i := 1134) (by decide +kernel), List.mem_of_getElem? (i := 1135) (by decide +kernel)⟩
theorem lw_p17 : lw_okq (⟨"ClockShares$House", "letVisitorsIn", "(I)V"⟩, 18) := ⟨⟨by decide +kernel, by decide +kernel⟩, List.mem_of_getElem? (i := 85) (by decide +kernel), List.mem_of_getElem? (i := 1148) (by decide +kernel), List.mem_of_getElem? (i := 1149) (by decide +kernel)⟩
theorem lw_p18 : lw_okq (⟨"ClockShares$House", "bringsQuarrel", "(I)Z"⟩, 18) := ⟨⟨by decide +kernel, by decide +kernel⟩, List.mem_of_getElem? (i := 85) (by decide +kernel), List.mem_of_getElem? (i := 1156) (by decide +kernel), List.mem_of_getElem? (i := 1157) (by decide +kernel)⟩
theorem lw_p19 : lw_okq (⟨"ClockShares$House", "turnClock", "()V"⟩, 18) := ⟨⟨by decide +kernel, by decide +kernel⟩, List.mem_of_getElem? (i := 85) (by decide +kernel), List.mem_of_getElem? (i := 1165) (by decide +kernel), List.mem_of_getElem? (i := 1166) (by decide +kernel)⟩
theorem lw_p20 : lw_okq (⟨"ClockShares$House", "fineThingsOf", "(I)I"⟩, 18) := ⟨⟨by decide +kernel, by decide +kernel⟩, List.mem_of_getElem? (i := 85) (by decide +kernel), List.mem_of_getElem? (i := 1169) (by decide +kernel), List.mem_of_getElem? (i := 1170) (by decide +kernel)⟩
theorem lw_p21 : lw_okq (⟨"ClockShares", "tellsRisings", "()Z"⟩, 8) := ⟨⟨by decide +kernel, by decide +kernel⟩, List.mem_of_getElem? (i := 31) (by decide +kernel), List.mem_of_getElem? (i := 1242) (by decide +kernel), List.mem_of_getElem? (i := 1243) (by decide +kernel)⟩
theorem lw_p22 : lw_okq (⟨"ClockShares", "rowsOfSuspects", "()I"⟩, 8) := ⟨⟨by decide +kernel, by decide +kernel⟩, List.mem_of_getElem? (i := 31) (by decide +kernel), List.mem_of_getElem? (i := 1247) (by decide +kernel), List.mem_of_getElem? (i := 1248) (by decide +kernel)⟩
theorem lw_p23 : lw_okq (⟨"ClockShares", "suspects", "()I"⟩, 8) := ⟨⟨by decide +kernel, by decide +kernel⟩, List.mem_of_getElem? (i := 31) (by decide +kernel), List.mem_of_getElem? (i := 1253) (by decide +kernel), List.mem_of_getElem? (i := 1254) (by decide +kernel)⟩
theorem lw_p24 : lw_okq (⟨"ClockSharesModel", "readAll", "(Z)I"⟩, 23) := ⟨⟨by decide +kernel, by decide +kernel⟩, List.mem_of_getElem? (i := 1352) (by decide +kernel), List.mem_of_getElem? (i := 1456) (by decide +kernel), List.mem_of_getElem? (i := 1457) (by decide +kernel)⟩
theorem lw_p25 : lw_okq (⟨"ClockSharesModel", "uses", "()V"⟩, 23) := ⟨⟨by decide +kernel, by decide +kernel⟩, List.mem_of_getElem? (i := 1352) (by decide +kernel), List.mem_of_getElem? (i := 1460) (by decide +kernel), List.mem_of_getElem? (i := 1461) (by decide +kernel)⟩
theorem lw_p26 : lw_okq (⟨"ClockSharesModel", "blanks", "()V"⟩, 23) := ⟨⟨by decide +kernel, by decide +kernel⟩, List.mem_of_getElem? (i := 1352) (by decide +kernel), List.mem_of_getElem? (i := 1464) (by decide +kernel), List.mem_of_getElem? (i := 1465) (by decide +kernel)⟩
theorem lw_p27 : lw_okq (⟨"ClockSharesModel", "isAt", "(II)Z"⟩, 23) := ⟨⟨by decide +kernel, by decide +kernel⟩, List.mem_of_getElem? (i := 1352) (by decide +kernel), List.mem_of_getElem? (i := 1468) (by decide +kernel), List.mem_of_getElem? (i := 1469) (by decide +kernel)⟩
theorem lw_p28 : lw_okq (⟨"ClockSharesModel", "readLine", "(ZI)Z"⟩, 23) := ⟨⟨by decide +kernel, by decide +kernel⟩, List.mem_of_getElem? (i := 1352) (by decide +kernel), List.mem_of_getElem? (i := 1472) (by decide +kernel), List.mem_of_getElem? (i := 1473) (by decide +kernel)⟩
theorem lw_p29 : lw_okq (⟨"ClockSharesModel", "letters", "()V"⟩, 23) := ⟨⟨by decide +kernel, by decide +kernel⟩, List.mem_of_getElem? (i := 1352) (by decide +kernel), List.mem_of_getElem? (i := 1476) (by decide +kernel), List.mem_of_getElem? (i := 1477) (by decide +kernel)⟩
theorem lw_p30 : lw_okq (⟨"ClockSharesModel", "readDeedLine", "()Z"⟩, 23) := ⟨⟨by decide +kernel, by decide +kernel⟩, List.mem_of_getElem? (i := 1352) (by decide +kernel), List.mem_of_getElem? (i := 1480) (by decide +kernel), List.mem_of_getElem? (i := 1481) (by decide +kernel)⟩
theorem lw_p31 : lw_okq (⟨"ClockSharesModel", "isWord", "(Ljava/lang/String;)Z"⟩, 23) := ⟨⟨by decide +kernel, by decide +kernel⟩, List.mem_of_getElem? (i := 1352) (by decide +kernel), List.mem_of_getElem? (i := 1485) (by decide +kernel), List.mem_of_getElem? (i := 1486) (by decide +kernel)⟩
def lw_privs_2 : List (MethodName × Nat) := [(⟨"ClockShares", "needBetween", "(III)V"⟩, 8), (⟨"ClockShares$House", "letVisitorsIn", "(I)V"⟩, 18), (⟨"ClockShares$House", "bringsQuarrel", "(I)Z"⟩, 18), (⟨"ClockShares$House", "turnClock", "()V"⟩, 18), (⟨"ClockShares$House", "fineThingsOf", "(I)I"⟩, 18), (⟨"ClockShares", "tellsRisings", "()Z"⟩, 8), (⟨"ClockShares", "rowsOfSuspects", "()I"⟩, 8), (⟨"ClockShares", "suspects", "()I"⟩, 8), (⟨"ClockSharesModel", "readAll", "(Z)I"⟩, 23), (⟨"ClockSharesModel", "uses", "()V"⟩, 23), (⟨"ClockSharesModel", "blanks", "()V"⟩, 23), (⟨"ClockSharesModel", "isAt", "(II)Z"⟩, 23), (⟨"ClockSharesModel", "readLine", "(ZI)Z"⟩, 23), (⟨"ClockSharesModel", "letters", "()V"⟩, 23), (⟨"ClockSharesModel", "readDeedLine", "()Z"⟩, 23), (⟨"ClockSharesModel", "isWord", "(Ljava/lang/String;)Z"⟩, 23)]
theorem lw_r2 : ∀ q ∈ lw_privs_2, lw_okq q := List.forall_mem_cons.mpr ⟨lw_p16, List.forall_mem_cons.mpr ⟨lw_p17, List.forall_mem_cons.mpr ⟨lw_p18, List.forall_mem_cons.mpr ⟨lw_p19, List.forall_mem_cons.mpr ⟨lw_p20, List.forall_mem_cons.mpr ⟨lw_p21, List.forall_mem_cons.mpr ⟨lw_p22, List.forall_mem_cons.mpr ⟨lw_p23, List.forall_mem_cons.mpr ⟨lw_p24, List.forall_mem_cons.mpr ⟨lw_p25, List.forall_mem_cons.mpr ⟨lw_p26, List.forall_mem_cons.mpr ⟨lw_p27, List.forall_mem_cons.mpr ⟨lw_p28, List.forall_mem_cons.mpr ⟨lw_p29, List.forall_mem_cons.mpr ⟨lw_p30, List.forall_mem_cons.mpr ⟨lw_p31, fun _ h => absurd h List.not_mem_nil⟩⟩⟩⟩⟩⟩⟩⟩⟩⟩⟩⟩⟩⟩⟩⟩
theorem lw_p32 : lw_okq (⟨"ClockSharesModel", "readFamily", "()Z"⟩, 23) := ⟨⟨by decide +kernel, by decide +kernel⟩, List.mem_of_getElem? (i := 1352) (by decide +kernel), List.mem_of_getElem? (i := 1491) (by decide +kernel), List.mem_of_getElem? (i := 1492) (by decide +kernel)⟩
theorem lw_p33 : lw_okq (⟨"ClockSharesModel", "families", "()I"⟩, 23) := ⟨⟨by decide +kernel, by decide +kernel⟩, List.mem_of_getElem? (i := 1352) (by decide +kernel), List.mem_of_getElem? (i := 1495) (by decide +kernel), List.mem_of_getElem? (i := 1496) (by decide +kernel)⟩
theorem lw_p34 : lw_okq (⟨"ClockSharesModel", "after", "(Ljava/lang/String;II)I"⟩, 23) := ⟨⟨by decide +kernel, by decide +kernel⟩, List.mem_of_getElem? (i := 1352) (by decide +kernel), List.mem_of_getElem? (i := 1500) (by decide +kernel), List.mem_of_getElem? (i := 1501) (by decide +kernel)⟩
theorem lw_p35 : lw_okq (⟨"ClockSharesModel", "number", "(II)I"⟩, 23) := ⟨⟨by decide +kernel, by decide +kernel⟩, List.mem_of_getElem? (i := 1352) (by decide +kernel), List.mem_of_getElem? (i := 1504) (by decide +kernel), List.mem_of_getElem? (i := 1505) (by decide +kernel)⟩
theorem lw_p36 : lw_okq (⟨"ClockSharesModel", "passes", "(Ljava/lang/String;)Z"⟩, 23) := ⟨⟨by decide +kernel, by decide +kernel⟩, List.mem_of_getElem? (i := 1352) (by decide +kernel), List.mem_of_getElem? (i := 1511) (by decide +kernel), List.mem_of_getElem? (i := 1512) (by decide +kernel)⟩
theorem lw_p37 : lw_okq (⟨"ClockSharesModel", "hoursTold", "()I"⟩, 23) := ⟨⟨by decide +kernel, by decide +kernel⟩, List.mem_of_getElem? (i := 1352) (by decide +kernel), List.mem_of_getElem? (i := 1515) (by decide +kernel), List.mem_of_getElem? (i := 1516) (by decide +kernel)⟩
theorem lw_p38 : lw_okq (⟨"ClockSharesModel", "gives", "(II)V"⟩, 23) := ⟨⟨by decide +kernel, by decide +kernel⟩, List.mem_of_getElem? (i := 1352) (by decide +kernel), List.mem_of_getElem? (i := 1527) (by decide +kernel), List.mem_of_getElem? (i := 1528) (by decide +kernel)⟩
theorem lw_p39 : lw_okq (⟨"ClockSharesModel", "holderOf", "(I)I"⟩, 23) := ⟨⟨by decide +kernel, by decide +kernel⟩, List.mem_of_getElem? (i := 1352) (by decide +kernel), List.mem_of_getElem? (i := 1534) (by decide +kernel), List.mem_of_getElem? (i := 1535) (by decide +kernel)⟩
theorem lw_p40 : lw_okq (⟨"ClockSharesModel", "readHours", "()Z"⟩, 23) := ⟨⟨by decide +kernel, by decide +kernel⟩, List.mem_of_getElem? (i := 1352) (by decide +kernel), List.mem_of_getElem? (i := 1538) (by decide +kernel), List.mem_of_getElem? (i := 1539) (by decide +kernel)⟩
theorem lw_p41 : lw_okq (⟨"ClockSharesModel", "familyTold", "()I"⟩, 23) := ⟨⟨by decide +kernel, by decide +kernel⟩, List.mem_of_getElem? (i := 1352) (by decide +kernel), List.mem_of_getElem? (i := 1542) (by decide +kernel), List.mem_of_getElem? (i := 1543) (by decide +kernel)⟩
theorem lw_p42 : lw_okq (⟨"ClockSharesModel", "readFree", "()Z"⟩, 23) := ⟨⟨by decide +kernel, by decide +kernel⟩, List.mem_of_getElem? (i := 1352) (by decide +kernel), List.mem_of_getElem? (i := 1547) (by decide +kernel), List.mem_of_getElem? (i := 1548) (by decide +kernel)⟩
theorem lw_p43 : lw_okq (⟨"ClockSharesModel", "readThing", "()Z"⟩, 23) := ⟨⟨by decide +kernel, by decide +kernel⟩, List.mem_of_getElem? (i := 1352) (by decide +kernel), List.mem_of_getElem? (i := 1552) (by decide +kernel), List.mem_of_getElem? (i := 1553) (by decide +kernel)⟩
theorem lw_p44 : lw_okq (⟨"ClockSharesModel", "things", "()I"⟩, 23) := ⟨⟨by decide +kernel, by decide +kernel⟩, List.mem_of_getElem? (i := 1352) (by decide +kernel), List.mem_of_getElem? (i := 1556) (by decide +kernel), List.mem_of_getElem? (i := 1557) (by decide +kernel)⟩
theorem lw_p45 : lw_okq (⟨"ClockSharesModel", "readWishes", "()Z"⟩, 23) := ⟨⟨by decide +kernel, by decide +kernel⟩, List.mem_of_getElem? (i := 1352) (by decide +kernel), List.mem_of_getElem? (i := 1565) (by decide +kernel), List.mem_of_getElem? (i := 1566) (by decide +kernel)⟩
theorem lw_p46 : lw_okq (⟨"ClockSharesModel", "readNumber", "(III)Z"⟩, 23) := ⟨⟨by decide +kernel, by decide +kernel⟩, List.mem_of_getElem? (i := 1352) (by decide +kernel), List.mem_of_getElem? (i := 1570) (by decide +kernel), List.mem_of_getElem? (i := 1571) (by decide +kernel)⟩
theorem lw_p47 : lw_okq (⟨"ClockSharesModel", "readLawLine", "(I)Z"⟩, 23) := ⟨⟨by decide +kernel, by decide +kernel⟩, List.mem_of_getElem? (i := 1352) (by decide +kernel), List.mem_of_getElem? (i := 1578) (by decide +kernel), List.mem_of_getElem? (i := 1579) (by decide +kernel)⟩
def lw_privs_3 : List (MethodName × Nat) := [(⟨"ClockSharesModel", "readFamily", "()Z"⟩, 23), (⟨"ClockSharesModel", "families", "()I"⟩, 23), (⟨"ClockSharesModel", "after", "(Ljava/lang/String;II)I"⟩, 23), (⟨"ClockSharesModel", "number", "(II)I"⟩, 23), (⟨"ClockSharesModel", "passes", "(Ljava/lang/String;)Z"⟩, 23), (⟨"ClockSharesModel", "hoursTold", "()I"⟩, 23), (⟨"ClockSharesModel", "gives", "(II)V"⟩, 23), (⟨"ClockSharesModel", "holderOf", "(I)I"⟩, 23), (⟨"ClockSharesModel", "readHours", "()Z"⟩, 23), (⟨"ClockSharesModel", "familyTold", "()I"⟩, 23), (⟨"ClockSharesModel", "readFree", "()Z"⟩, 23), (⟨"ClockSharesModel", "readThing", "()Z"⟩, 23), (⟨"ClockSharesModel", "things", "()I"⟩, 23), (⟨"ClockSharesModel", "readWishes", "()Z"⟩, 23), (⟨"ClockSharesModel", "readNumber", "(III)Z"⟩, 23), (⟨"ClockSharesModel", "readLawLine", "(I)Z"⟩, 23)]
theorem lw_r3 : ∀ q ∈ lw_privs_3, lw_okq q := List.forall_mem_cons.mpr ⟨lw_p32, List.forall_mem_cons.mpr ⟨lw_p33, List.forall_mem_cons.mpr ⟨lw_p34, List.forall_mem_cons.mpr ⟨lw_p35, List.forall_mem_cons.mpr ⟨lw_p36, List.forall_mem_cons.mpr ⟨lw_p37, List.forall_mem_cons.mpr ⟨lw_p38, List.forall_mem_cons.mpr ⟨lw_p39, List.forall_mem_cons.mpr ⟨lw_p40, List.forall_mem_cons.mpr ⟨lw_p41, List.forall_mem_cons.mpr ⟨lw_p42, List.forall_mem_cons.mpr ⟨lw_p43, List.forall_mem_cons.mpr ⟨lw_p44, List.forall_mem_cons.mpr ⟨lw_p45, List.forall_mem_cons.mpr ⟨lw_p46, List.forall_mem_cons.mpr ⟨lw_p47, fun _ h => absurd h List.not_mem_nil⟩⟩⟩⟩⟩⟩⟩⟩⟩⟩⟩⟩⟩⟩⟩⟩
theorem lw_p48 : lw_okq (⟨"ClockSharesModel", "readCond", "()Z"⟩, 23) := ⟨⟨by decide +kernel, by decide +kernel⟩, List.mem_of_getElem? (i := 1352) (by decide +kernel), List.mem_of_getElem? (i := 1584) (by decide +kernel), List.mem_of_getElem? (i := 1585) (by decide +kernel)⟩
theorem lw_p49 : lw_okq (⟨"ClockSharesModel", "readAllOf", "()Z"⟩, 23) := ⟨⟨by decide +kernel, by decide +kernel⟩, List.mem_of_getElem? (i := 1352) (by decide +kernel), List.mem_of_getElem? (i := 1588) (by decide +kernel), List.mem_of_getElem? (i := 1589) (by decide +kernel)⟩
theorem lw_p50 : lw_okq (⟨"ClockSharesModel", "readAtom", "()Z"⟩, 23) := ⟨⟨by decide +kernel, by decide +kernel⟩, List.mem_of_getElem? (i := 1352) (by decide +kernel), List.mem_of_getElem? (i := 1592) (by decide +kernel), List.mem_of_getElem? (i := 1593) (by decide +kernel)⟩
theorem lw_p51 : lw_okq (⟨"ClockSharesModel", "sign", "(I)Z"⟩, 23) := ⟨⟨by decide +kernel, by decide +kernel⟩, List.mem_of_getElem? (i := 1352) (by decide +kernel), List.mem_of_getElem? (i := 1596) (by decide +kernel), List.mem_of_getElem? (i := 1597) (by decide +kernel)⟩
theorem lw_p52 : lw_okq (⟨"ClockSharesModel", "emits", "(II)V"⟩, 23) := ⟨⟨by decide +kernel, by decide +kernel⟩, List.mem_of_getElem? (i := 1352) (by decide +kernel), List.mem_of_getElem? (i := 1601) (by decide +kernel), List.mem_of_getElem? (i := 1602) (by decide +kernel)⟩
theorem lw_p53 : lw_okq (⟨"ClockSharesModel", "readTag", "()Z"⟩, 23) := ⟨⟨by decide +kernel, by decide +kernel⟩, List.mem_of_getElem? (i := 1352) (by decide +kernel), List.mem_of_getElem? (i := 1605) (by decide +kernel), List.mem_of_getElem? (i := 1606) (by decide +kernel)⟩
theorem lw_p54 : lw_okq (⟨"ClockSharesModel", "readSum", "()Z"⟩, 23) := ⟨⟨by decide +kernel, by decide +kernel⟩, List.mem_of_getElem? (i := 1352) (by decide +kernel), List.mem_of_getElem? (i := 1611) (by decide +kernel), List.mem_of_getElem? (i := 1612) (by decide +kernel)⟩
theorem lw_p55 : lw_okq (⟨"ClockSharesModel", "readPart", "()Z"⟩, 23) := ⟨⟨by decide +kernel, by decide +kernel⟩, List.mem_of_getElem? (i := 1352) (by decide +kernel), List.mem_of_getElem? (i := 1615) (by decide +kernel), List.mem_of_getElem? (i := 1616) (by decide +kernel)⟩
theorem lw_p56 : lw_okq (⟨"ClockSharesModel", "throwsIf", "(ZI)Z"⟩, 23) := ⟨⟨by decide +kernel, by decide +kernel⟩, List.mem_of_getElem? (i := 1352) (by decide +kernel), List.mem_of_getElem? (i := 1624) (by decide +kernel), List.mem_of_getElem? (i := 1625) (by decide +kernel)⟩
theorem lw_p57 : lw_okq (⟨"ClockSharesModel", "noFamily", "(I)Z"⟩, 23) := ⟨⟨by decide +kernel, by decide +kernel⟩, List.mem_of_getElem? (i := 1352) (by decide +kernel), List.mem_of_getElem? (i := 1646) (by decide +kernel), List.mem_of_getElem? (i := 1647) (by decide +kernel)⟩
theorem lw_p58 : lw_okq (⟨"ClockSharesModel", "hoursOf", "(I)I"⟩, 23) := ⟨⟨by decide +kernel, by decide +kernel⟩, List.mem_of_getElem? (i := 1352) (by decide +kernel), List.mem_of_getElem? (i := 1650) (by decide +kernel), List.mem_of_getElem? (i := 1651) (by decide +kernel)⟩
theorem lw_p59 : lw_okq (⟨"ClockSharesModel", "shareOf", "(I)I"⟩, 23) := ⟨⟨by decide +kernel, by decide +kernel⟩, List.mem_of_getElem? (i := 1352) (by decide +kernel), List.mem_of_getElem? (i := 1654) (by decide +kernel), List.mem_of_getElem? (i := 1655) (by decide +kernel)⟩
theorem lw_p60 : lw_okq (⟨"ClockSharesModel", "longestOf", "(I)I"⟩, 23) := ⟨⟨by decide +kernel, by decide +kernel⟩, List.mem_of_getElem? (i := 1352) (by decide +kernel), List.mem_of_getElem? (i := 1659) (by decide +kernel), List.mem_of_getElem? (i := 1660) (by decide +kernel)⟩
theorem lw_p61 : lw_okq (⟨"ClockSharesModel", "gladOf", "(I)I"⟩, 23) := ⟨⟨by decide +kernel, by decide +kernel⟩, List.mem_of_getElem? (i := 1352) (by decide +kernel), List.mem_of_getElem? (i := 1667) (by decide +kernel), List.mem_of_getElem? (i := 1668) (by decide +kernel)⟩
theorem lw_p62 : lw_okq (⟨"ClockSharesModel", "of", "(II)I"⟩, 23) := ⟨⟨by decide +kernel, by decide +kernel⟩, List.mem_of_getElem? (i := 1352) (by decide +kernel), List.mem_of_getElem? (i := 1671) (by decide +kernel), List.mem_of_getElem? (i := 1672) (by decide +kernel)⟩
theorem lw_p63 : lw_okq (⟨"ClockSharesModel", "comesIn", "(I)I"⟩, 23) := ⟨⟨by decide +kernel, by decide +kernel⟩, List.mem_of_getElem? (i := 1352) (by decide +kernel), List.mem_of_getElem? (i := 1675) (by decide +kernel), List.mem_of_getElem? (i := 1676) (by decide +kernel)⟩
def lw_privs_4 : List (MethodName × Nat) := [(⟨"ClockSharesModel", "readCond", "()Z"⟩, 23), (⟨"ClockSharesModel", "readAllOf", "()Z"⟩, 23), (⟨"ClockSharesModel", "readAtom", "()Z"⟩, 23), (⟨"ClockSharesModel", "sign", "(I)Z"⟩, 23), (⟨"ClockSharesModel", "emits", "(II)V"⟩, 23), (⟨"ClockSharesModel", "readTag", "()Z"⟩, 23), (⟨"ClockSharesModel", "readSum", "()Z"⟩, 23), (⟨"ClockSharesModel", "readPart", "()Z"⟩, 23), (⟨"ClockSharesModel", "throwsIf", "(ZI)Z"⟩, 23), (⟨"ClockSharesModel", "noFamily", "(I)Z"⟩, 23), (⟨"ClockSharesModel", "hoursOf", "(I)I"⟩, 23), (⟨"ClockSharesModel", "shareOf", "(I)I"⟩, 23), (⟨"ClockSharesModel", "longestOf", "(I)I"⟩, 23), (⟨"ClockSharesModel", "gladOf", "(I)I"⟩, 23), (⟨"ClockSharesModel", "of", "(II)I"⟩, 23), (⟨"ClockSharesModel", "comesIn", "(I)I"⟩, 23)]
theorem lw_r4 : ∀ q ∈ lw_privs_4, lw_okq q := List.forall_mem_cons.mpr ⟨lw_p48, List.forall_mem_cons.mpr ⟨lw_p49, List.forall_mem_cons.mpr ⟨lw_p50, List.forall_mem_cons.mpr ⟨lw_p51, List.forall_mem_cons.mpr ⟨lw_p52, List.forall_mem_cons.mpr ⟨lw_p53, List.forall_mem_cons.mpr ⟨lw_p54, List.forall_mem_cons.mpr ⟨lw_p55, List.forall_mem_cons.mpr ⟨lw_p56, List.forall_mem_cons.mpr ⟨lw_p57, List.forall_mem_cons.mpr ⟨lw_p58, List.forall_mem_cons.mpr ⟨lw_p59, List.forall_mem_cons.mpr ⟨lw_p60, List.forall_mem_cons.mpr ⟨lw_p61, List.forall_mem_cons.mpr ⟨lw_p62, List.forall_mem_cons.mpr ⟨lw_p63, fun _ h => absurd h List.not_mem_nil⟩⟩⟩⟩⟩⟩⟩⟩⟩⟩⟩⟩⟩⟩⟩⟩
theorem lw_p64 : lw_okq (⟨"ClockSharesModel", "warmsBy", "(II)I"⟩, 23) := ⟨⟨by decide +kernel, by decide +kernel⟩, List.mem_of_getElem? (i := 1352) (by decide +kernel), List.mem_of_getElem? (i := 1683) (by decide +kernel), List.mem_of_getElem? (i := 1684) (by decide +kernel)⟩
theorem lw_p65 : lw_okq (⟨"ClockSharesModel", "sumOf", "(III)I"⟩, 23) := ⟨⟨by decide +kernel, by decide +kernel⟩, List.mem_of_getElem? (i := 1352) (by decide +kernel), List.mem_of_getElem? (i := 1687) (by decide +kernel), List.mem_of_getElem? (i := 1688) (by decide +kernel)⟩
theorem lw_p66 : lw_okq (⟨"ClockSharesModel", "holdsLine", "(III)Z"⟩, 23) := ⟨⟨by decide +kernel, by decide +kernel⟩, List.mem_of_getElem? (i := 1352) (by decide +kernel), List.mem_of_getElem? (i := 1691) (by decide +kernel), List.mem_of_getElem? (i := 1692) (by decide +kernel)⟩
theorem lw_p67 : lw_okq (⟨"ClockSharesModel", "factOf", "(IIII)I"⟩, 23) := ⟨⟨by decide +kernel, by decide +kernel⟩, List.mem_of_getElem? (i := 1352) (by decide +kernel), List.mem_of_getElem? (i := 1695) (by decide +kernel), List.mem_of_getElem? (i := 1696) (by decide +kernel)⟩
theorem lw_p68 : lw_okq (⟨"ClockSharesModel", "leftOnes", "()I"⟩, 23) := ⟨⟨by decide +kernel, by decide +kernel⟩, List.mem_of_getElem? (i := 1352) (by decide +kernel), List.mem_of_getElem? (i := 1699) (by decide +kernel), List.mem_of_getElem? (i := 1700) (by decide +kernel)⟩
theorem lw_p69 : lw_okq (⟨"ClockSharesModel", "isLeft", "(I)Z"⟩, 23) := ⟨⟨by decide +kernel, by decide +kernel⟩, List.mem_of_getElem? (i := 1352) (by decide +kernel), List.mem_of_getElem? (i := 1703) (by decide +kernel), List.mem_of_getElem? (i := 1704) (by decide +kernel)⟩
theorem lw_p70 : lw_okq (⟨"ClockSharesModel", "ofThing", "(II)I"⟩, 23) := ⟨⟨by decide +kernel, by decide +kernel⟩, List.mem_of_getElem? (i := 1352) (by decide +kernel), List.mem_of_getElem? (i := 1707) (by decide +kernel), List.mem_of_getElem? (i := 1708) (by decide +kernel)⟩
theorem lw_p71 : lw_okq (⟨"ClockSharesModel", "bulkOf", "(I)I"⟩, 23) := ⟨⟨by decide +kernel, by decide +kernel⟩, List.mem_of_getElem? (i := 1352) (by decide +kernel), List.mem_of_getElem? (i := 1711) (by decide +kernel), List.mem_of_getElem? (i := 1712) (by decide +kernel)⟩
theorem lw_p72 : lw_okq (⟨"ClockSharesModel", "wishes", "(II)Z"⟩, 23) := ⟨⟨by decide +kernel, by decide +kernel⟩, List.mem_of_getElem? (i := 1352) (by decide +kernel), List.mem_of_getElem? (i := 1718) (by decide +kernel), List.mem_of_getElem? (i := 1719) (by decide +kernel)⟩
theorem lw_p73 : lw_okq (⟨"ClockSharesModel", "dustsBy", "(II)I"⟩, 23) := ⟨⟨by decide +kernel, by decide +kernel⟩, List.mem_of_getElem? (i := 1352) (by decide +kernel), List.mem_of_getElem? (i := 1722) (by decide +kernel), List.mem_of_getElem? (i := 1723) (by decide +kernel)⟩
theorem lw_p74 : lw_okq (⟨"ClockSharesModel", "noThing", "(I)Z"⟩, 23) := ⟨⟨by decide +kernel, by decide +kernel⟩, List.mem_of_getElem? (i := 1352) (by decide +kernel), List.mem_of_getElem? (i := 1730) (by decide +kernel), List.mem_of_getElem? (i := 1731) (by decide +kernel)⟩
theorem lw_p75 : lw_okq (⟨"ClockSharesModel", "finedBy", "(I)I"⟩, 23) := ⟨⟨by decide +kernel, by decide +kernel⟩, List.mem_of_getElem? (i := 1352) (by decide +kernel), List.mem_of_getElem? (i := 1734) (by decide +kernel), List.mem_of_getElem? (i := 1735) (by decide +kernel)⟩
theorem lw_p76 : lw_okq (⟨"ClockSharesModel", "remembers", "()V"⟩, 23) := ⟨⟨by decide +kernel, by decide +kernel⟩, List.mem_of_getElem? (i := 1352) (by decide +kernel), List.mem_of_getElem? (i := 1742) (by decide +kernel), List.mem_of_getElem? (i := 1743) (by decide +kernel)⟩
theorem lw_p77 : lw_okq (⟨"ClockSharesModel", "exchanges", "(II)V"⟩, 23) := ⟨⟨by decide +kernel, by decide +kernel⟩, List.mem_of_getElem? (i := 1352) (by decide +kernel), List.mem_of_getElem? (i := 1755) (by decide +kernel), List.mem_of_getElem? (i := 1756) (by decide +kernel)⟩
theorem lw_p78 : lw_okq (⟨"ClockSharesModel", "inNow", "()I"⟩, 23) := ⟨⟨by decide +kernel, by decide +kernel⟩, List.mem_of_getElem? (i := 1352) (by decide +kernel), List.mem_of_getElem? (i := 1767) (by decide +kernel), List.mem_of_getElem? (i := 1768) (by decide +kernel)⟩
theorem lw_p79 : lw_okq (⟨"ClockSharesModel", "isLaid", "(II)I"⟩, 23) := ⟨⟨by decide +kernel, by decide +kernel⟩, List.mem_of_getElem? (i := 1352) (by decide +kernel), List.mem_of_getElem? (i := 1771) (by decide +kernel), List.mem_of_getElem? (i := 1772) (by decide +kernel)⟩
def lw_privs_5 : List (MethodName × Nat) := [(⟨"ClockSharesModel", "warmsBy", "(II)I"⟩, 23), (⟨"ClockSharesModel", "sumOf", "(III)I"⟩, 23), (⟨"ClockSharesModel", "holdsLine", "(III)Z"⟩, 23), (⟨"ClockSharesModel", "factOf", "(IIII)I"⟩, 23), (⟨"ClockSharesModel", "leftOnes", "()I"⟩, 23), (⟨"ClockSharesModel", "isLeft", "(I)Z"⟩, 23), (⟨"ClockSharesModel", "ofThing", "(II)I"⟩, 23), (⟨"ClockSharesModel", "bulkOf", "(I)I"⟩, 23), (⟨"ClockSharesModel", "wishes", "(II)Z"⟩, 23), (⟨"ClockSharesModel", "dustsBy", "(II)I"⟩, 23), (⟨"ClockSharesModel", "noThing", "(I)Z"⟩, 23), (⟨"ClockSharesModel", "finedBy", "(I)I"⟩, 23), (⟨"ClockSharesModel", "remembers", "()V"⟩, 23), (⟨"ClockSharesModel", "exchanges", "(II)V"⟩, 23), (⟨"ClockSharesModel", "inNow", "()I"⟩, 23), (⟨"ClockSharesModel", "isLaid", "(II)I"⟩, 23)]
theorem lw_r5 : ∀ q ∈ lw_privs_5, lw_okq q := List.forall_mem_cons.mpr ⟨lw_p64, List.forall_mem_cons.mpr ⟨lw_p65, List.forall_mem_cons.mpr ⟨lw_p66, List.forall_mem_cons.mpr ⟨lw_p67, List.forall_mem_cons.mpr ⟨lw_p68, List.forall_mem_cons.mpr ⟨lw_p69, List.forall_mem_cons.mpr ⟨lw_p70, List.forall_mem_cons.mpr ⟨lw_p71, List.forall_mem_cons.mpr ⟨lw_p72, List.forall_mem_cons.mpr ⟨lw_p73, List.forall_mem_cons.mpr ⟨lw_p74, List.forall_mem_cons.mpr ⟨lw_p75, List.forall_mem_cons.mpr ⟨lw_p76, List.forall_mem_cons.mpr ⟨lw_p77, List.forall_mem_cons.mpr ⟨lw_p78, List.forall_mem_cons.mpr ⟨lw_p79, fun _ h => absurd h List.not_mem_nil⟩⟩⟩⟩⟩⟩⟩⟩⟩⟩⟩⟩⟩⟩⟩⟩
theorem lw_p80 : lw_okq (⟨"ClockSharesModel", "goesOn", "(IZ)I"⟩, 23) := ⟨⟨by decide +kernel, by decide +kernel⟩, List.mem_of_getElem? (i := 1352) (by decide +kernel), List.mem_of_getElem? (i := 1791) (by decide +kernel), List.mem_of_getElem? (i := 1792) (by decide +kernel)⟩
theorem lw_p81 : lw_okq (⟨"ClockSharesModel", "oneHour", "(Z)I"⟩, 23) := ⟨⟨by decide +kernel, by decide +kernel⟩, List.mem_of_getElem? (i := 1352) (by decide +kernel), List.mem_of_getElem? (i := 1795) (by decide +kernel), List.mem_of_getElem? (i := 1796) (by decide +kernel)⟩
theorem lw_p82 : lw_okq (⟨"ClockSharesModel", "visits", "(I)V"⟩, 23) := ⟨⟨by decide +kernel, by decide +kernel⟩, List.mem_of_getElem? (i := 1352) (by decide +kernel), List.mem_of_getElem? (i := 1799) (by decide +kernel), List.mem_of_getElem? (i := 1800) (by decide +kernel)⟩
theorem lw_p83 : lw_okq (⟨"ClockSharesModel", "drawn", "(I)I"⟩, 23) := ⟨⟨by decide +kernel, by decide +kernel⟩, List.mem_of_getElem? (i := 1352) (by decide +kernel), List.mem_of_getElem? (i := 1803) (by decide +kernel), List.mem_of_getElem? (i := 1804) (by decide +kernel)⟩
theorem lw_p84 : lw_okq (⟨"ClockSharesModel", "tells", "(III)V"⟩, 23) := ⟨⟨by decide +kernel, by decide +kernel⟩, List.mem_of_getElem? (i := 1352) (by decide +kernel), List.mem_of_getElem? (i := 1808) (by decide +kernel), List.mem_of_getElem? (i := 1809) (by decide +kernel)⟩
theorem lw_p85 : lw_okq (⟨"ClockSharesModel", "goesOut", "(I)I"⟩, 23) := ⟨⟨by decide +kernel, by decide +kernel⟩, List.mem_of_getElem? (i := 1352) (by decide +kernel), List.mem_of_getElem? (i := 1812) (by decide +kernel), List.mem_of_getElem? (i := 1813) (by decide +kernel)⟩
theorem lw_p86 : lw_okq (⟨"ClockSharesModel", "keepsAll", "()V"⟩, 23) := ⟨⟨by decide +kernel, by decide +kernel⟩, List.mem_of_getElem? (i := 1352) (by decide +kernel), List.mem_of_getElem? (i := 1820) (by decide +kernel), List.mem_of_getElem? (i := 1821) (by decide +kernel)⟩
theorem lw_p87 : lw_okq (⟨"ClockSharesModel", "bringsBack", "()V"⟩, 23) := ⟨⟨by decide +kernel, by decide +kernel⟩, List.mem_of_getElem? (i := 1352) (by decide +kernel), List.mem_of_getElem? (i := 1824) (by decide +kernel), List.mem_of_getElem? (i := 1825) (by decide +kernel)⟩
theorem lw_p88 : lw_okq (⟨"ClockSharesModel", "metBy", "(II)I"⟩, 23) := ⟨⟨by decide +kernel, by decide +kernel⟩, List.mem_of_getElem? (i := 1352) (by decide +kernel), List.mem_of_getElem? (i := 1848) (by decide +kernel), List.mem_of_getElem? (i := 1849) (by decide +kernel)⟩
theorem lw_p89 : lw_okq (⟨"ClockSharesModel", "meets", "(III)Z"⟩, 23) := ⟨⟨by decide +kernel, by decide +kernel⟩, List.mem_of_getElem? (i := 1352) (by decide +kernel), List.mem_of_getElem? (i := 1852) (by decide +kernel), List.mem_of_getElem? (i := 1853) (by decide +kernel)⟩
theorem lw_p90 : lw_okq (⟨"ClockSharesModel", "isDealt", "(I)Z"⟩, 23) := ⟨⟨by decide +kernel, by decide +kernel⟩, List.mem_of_getElem? (i := 1352) (by decide +kernel), List.mem_of_getElem? (i := 1888) (by decide +kernel), List.mem_of_getElem? (i := 1889) (by decide +kernel)⟩
theorem lw_p91 : lw_okq (⟨"ClockSharesModel", "findsRoom", "(I)I"⟩, 23) := ⟨⟨by decide +kernel, by decide +kernel⟩, List.mem_of_getElem? (i := 1352) (by decide +kernel), List.mem_of_getElem? (i := 1892) (by decide +kernel), List.mem_of_getElem? (i := 1893) (by decide +kernel)⟩
theorem lw_p92 : lw_okq (⟨"ClockSharesModel", "looksFor", "(II)I"⟩, 23) := ⟨⟨by decide +kernel, by decide +kernel⟩, List.mem_of_getElem? (i := 1352) (by decide +kernel), List.mem_of_getElem? (i := 1896) (by decide +kernel), List.mem_of_getElem? (i := 1897) (by decide +kernel)⟩
theorem lw_p93 : lw_okq (⟨"ClockSharesModel", "gladder", "(III)I"⟩, 23) := ⟨⟨by decide +kernel, by decide +kernel⟩, List.mem_of_getElem? (i := 1352) (by decide +kernel), List.mem_of_getElem? (i := 1904) (by decide +kernel), List.mem_of_getElem? (i := 1905) (by decide +kernel)⟩
theorem lw_p94 : lw_okq (⟨"ClockSharesModel", "everybody", "()I"⟩, 23) := ⟨⟨by decide +kernel, by decide +kernel⟩, List.mem_of_getElem? (i := 1352) (by decide +kernel), List.mem_of_getElem? (i := 1912) (by decide +kernel), List.mem_of_getElem? (i := 1913) (by decide +kernel)⟩
theorem lw_p95 : lw_okq (⟨"ClockSharesModel", "worthOf", "(I)I"⟩, 23) := ⟨⟨by decide +kernel, by decide +kernel⟩, List.mem_of_getElem? (i := 1352) (by decide +kernel), List.mem_of_getElem? (i := 1916) (by decide +kernel), List.mem_of_getElem? (i := 1917) (by decide +kernel)⟩
def lw_privs_6 : List (MethodName × Nat) := [(⟨"ClockSharesModel", "goesOn", "(IZ)I"⟩, 23), (⟨"ClockSharesModel", "oneHour", "(Z)I"⟩, 23), (⟨"ClockSharesModel", "visits", "(I)V"⟩, 23), (⟨"ClockSharesModel", "drawn", "(I)I"⟩, 23), (⟨"ClockSharesModel", "tells", "(III)V"⟩, 23), (⟨"ClockSharesModel", "goesOut", "(I)I"⟩, 23), (⟨"ClockSharesModel", "keepsAll", "()V"⟩, 23), (⟨"ClockSharesModel", "bringsBack", "()V"⟩, 23), (⟨"ClockSharesModel", "metBy", "(II)I"⟩, 23), (⟨"ClockSharesModel", "meets", "(III)Z"⟩, 23), (⟨"ClockSharesModel", "isDealt", "(I)Z"⟩, 23), (⟨"ClockSharesModel", "findsRoom", "(I)I"⟩, 23), (⟨"ClockSharesModel", "looksFor", "(II)I"⟩, 23), (⟨"ClockSharesModel", "gladder", "(III)I"⟩, 23), (⟨"ClockSharesModel", "everybody", "()I"⟩, 23), (⟨"ClockSharesModel", "worthOf", "(I)I"⟩, 23)]
theorem lw_r6 : ∀ q ∈ lw_privs_6, lw_okq q := List.forall_mem_cons.mpr ⟨lw_p80, List.forall_mem_cons.mpr ⟨lw_p81, List.forall_mem_cons.mpr ⟨lw_p82, List.forall_mem_cons.mpr ⟨lw_p83, List.forall_mem_cons.mpr ⟨lw_p84, List.forall_mem_cons.mpr ⟨lw_p85, List.forall_mem_cons.mpr ⟨lw_p86, List.forall_mem_cons.mpr ⟨lw_p87, List.forall_mem_cons.mpr ⟨lw_p88, List.forall_mem_cons.mpr ⟨lw_p89, List.forall_mem_cons.mpr ⟨lw_p90, List.forall_mem_cons.mpr ⟨lw_p91, List.forall_mem_cons.mpr ⟨lw_p92, List.forall_mem_cons.mpr ⟨lw_p93, List.forall_mem_cons.mpr ⟨lw_p94, List.forall_mem_cons.mpr ⟨lw_p95, fun _ h => absurd h List.not_mem_nil⟩⟩⟩⟩⟩⟩⟩⟩⟩⟩⟩⟩⟩⟩⟩⟩
theorem lw_p96 : lw_okq (⟨"ClockSharesModel", "hasBy", "(IIII)I"⟩, 23) := ⟨⟨by decide +kernel, by decide +kernel⟩, List.mem_of_getElem? (i := 1352) (by decide +kernel), List.mem_of_getElem? (i := 1931) (by decide +kernel), List.mem_of_getElem? (i := 1932) (by decide +kernel)⟩
theorem lw_p97 : lw_okq (⟨"ClockSharesModel", "familiesOf", "(I)I"⟩, 23) := ⟨⟨by decide +kernel, by decide +kernel⟩, List.mem_of_getElem? (i := 1352) (by decide +kernel), List.mem_of_getElem? (i := 1939) (by decide +kernel), List.mem_of_getElem? (i := 1940) (by decide +kernel)⟩
theorem lw_p98 : lw_okq (⟨"ClockSharesModel", "pursesOfAll", "()I"⟩, 23) := ⟨⟨by decide +kernel, by decide +kernel⟩, List.mem_of_getElem? (i := 1352) (by decide +kernel), List.mem_of_getElem? (i := 1959) (by decide +kernel), List.mem_of_getElem? (i := 1960) (by decide +kernel)⟩
theorem lw_p99 : lw_okq (⟨"ClockSharesModel", "ofLog", "(II)I"⟩, 23) := ⟨⟨by decide +kernel, by decide +kernel⟩, List.mem_of_getElem? (i := 1352) (by decide +kernel), List.mem_of_getElem? (i := 1971) (by decide +kernel), List.mem_of_getElem? (i := 1972) (by decide +kernel)⟩
def lw_privs_7 : List (MethodName × Nat) := [(⟨"ClockSharesModel", "hasBy", "(IIII)I"⟩, 23), (⟨"ClockSharesModel", "familiesOf", "(I)I"⟩, 23), (⟨"ClockSharesModel", "pursesOfAll", "()I"⟩, 23), (⟨"ClockSharesModel", "ofLog", "(II)I"⟩, 23)]
theorem lw_r7 : ∀ q ∈ lw_privs_7, lw_okq q := List.forall_mem_cons.mpr ⟨lw_p96, List.forall_mem_cons.mpr ⟨lw_p97, List.forall_mem_cons.mpr ⟨lw_p98, List.forall_mem_cons.mpr ⟨lw_p99, fun _ h => absurd h List.not_mem_nil⟩⟩⟩⟩
def lw_privs : List (MethodName × Nat) := lw_privs_1 ++ (lw_privs_2 ++ (lw_privs_3 ++ (lw_privs_4 ++ (lw_privs_5 ++ (lw_privs_6 ++ (lw_privs_7))))))
def lw_tbl : List Cond := k2_sels lw_privs ++ tables_1
theorem lw_privs_ok : ∀ q ∈ lw_privs, lw_okq q := by
  show ∀ q ∈ lw_privs_1 ++ (lw_privs_2 ++ (lw_privs_3 ++ (lw_privs_4 ++ (lw_privs_5 ++ (lw_privs_6 ++ (lw_privs_7)))))), lw_okq q
  exact List.forall_mem_append.mpr ⟨lw_r1, List.forall_mem_append.mpr ⟨lw_r2, List.forall_mem_append.mpr ⟨lw_r3, List.forall_mem_append.mpr ⟨lw_r4, List.forall_mem_append.mpr ⟨lw_r5, List.forall_mem_append.mpr ⟨lw_r6, lw_r7⟩⟩⟩⟩⟩⟩
-- ===== end of PART A; then your names; then what follows =====
/-! ===== BEGIN words of one list among another's, by their places ===== -/
theorem goodIn_r {big : List Cond} (ws : List Cond) (ps : List Nat) (hp : ws = ps.filterMap (fun i => big[i]?)) (h : ws.all goodWord = true) : GoodIn big ws := by
  intro w hw
  have h1 := List.all_eq_true.mp h w hw
  rw [hp] at hw
  obtain ⟨i, -, hi⟩ := List.mem_filterMap.mp hw
  have hm : w ∈ big := by first | exact List.mem_of_getElem? hi | exact List.getElem?_mem hi
  exact ⟨hm, good_of_word h1⟩
theorem goodIn_app {big a b : List Cond} (ha : GoodIn big a) (hb : GoodIn big b) : GoodIn big (a ++ b) := fun w h => (List.mem_append.mp h).elim (ha w) (hb w)
theorem goodIn_ca {big a b : List Cond} {c : Cond} (ha : GoodIn big (c :: a)) (hb : GoodIn big b) : GoodIn big (c :: (a ++ b)) := fun w h => (List.mem_cons.mp h).elim (fun e => ha w (List.mem_cons.mpr (Or.inl e))) (fun h => (List.mem_append.mp h).elim (fun h => ha w (List.mem_cons.mpr (Or.inr h))) (hb w))
theorem goodIn_sub {big ws : List Cond} (hm : ∀ w ∈ ws, w ∈ big) (h : ws.all goodWord = true) : GoodIn big ws := fun w hw => ⟨hm w hw, good_of_word (List.all_eq_true.mp h w hw)⟩
/-! ===== END ===== -/

/-! ===== BEGIN exceptions that leave a method, and their catching by the caller (launches without stack traces) ===== -/
section VXA
/-! The laws vx_back, vx_callV, vx_callS, vx_callSW, vx_throw0, vx_throwS follow proofs of the library, with one case more: JvmDerived/Free/Laws.lean (Back.of_free), Shelf42/LK1.lean (callV, callS), Shelf/KitTraced.lean (throwNew0V, throwNewS). -/
/-- where a method has thrown q: the class by its name, the cell, what was written, the world -/
def vx_T (XC : String → State → State → Prop) (st : State) (q : Addr) (t : State) (mc ms : Nat) (free : Addr → Prop) : Prop :=
  ∃ (E : String) (ce : Cell) (L : List Loc), XC E st t ∧ t.heap[q]? = some ce ∧ ce.vm = .none ∧ st.vm.findClass E = some ce.cls ∧ st.WarmedH t.vm ∧ st.sameButNew ({ t with vm := st.vm } : State) L mc ms ∧ ∀ z ∈ L, free z.base
def vx_Q (Qc : Array Value → State → Outcome → State → Prop) (XC : String → State → State → Prop) (mc ms : Nat) (free : Addr → Prop) : Array Value → State → Outcome → State → Prop := fun a st o t =>
  (Qc a st o t ∧ ∃ L, FrameEnd st o t L mc ms ∧ ∀ q ∈ L, free q.base) ∨ ∃ q, o = .threw q ∧ vx_T XC st q t mc ms free
/-- a callee that returns or throws -/
def vx_Met (l : Launch) (y : MethodName) (ws : List Cond) (rm : Room) (Pc : Array Value → State → Prop) (Qc : Array Value → State → Outcome → State → Prop) (XC : String → State → State → Prop) (mc ms : Nat) (free : Addr → Prop) : Prop :=
  MetFree l y (headSpec ws rm) Pc (fun _ _ _ _ _ => True) (vx_Q Qc XC mc ms free)
def vx_Post (XC : String → State → State → Prop) (mc ms : Nat) (free : Addr → Prop) : Pt → Array Value → Addr → Pt → Prop := fun A a q B =>
  ∃ (g : JFrame) (mk : MethodId) (t : State) (L : List Loc) (E : String) (ce : Cell), B.U.heap = t.heap ∧ B.U.vm = t.vm ∧ XC E (A.U.calling g mk a) t ∧ t.heap[q]? = some ce ∧ ce.vm = .none ∧ A.U.vm.findClass E = some ce.cls ∧ B.locs = A.locs ++ L ∧ (∀ z ∈ L, free z.base) ∧ B.cells = A.cells + mc ∧ B.slots = A.slots + ms
def vx_Back (l : Launch) (R : Room) (p : Program) (e : Env) (below : List Frame) (s : State) (sargs : Array Value) (y : MethodName) (len W9 : Nat)
    (Pre : Pt → Array Value → Prop) (Post : Pt → Array Value → Option Value → Pt → Prop) (PostX : Pt → Array Value → Addr → Pt → Prop) : Prop :=
  ∀ (m : MethodId) (meth : Method) (c : Code) (A : Pt) (g : JFrame) (ig : Instr) (mk : MethodId) (a : Array Value),
    Stand p l e R s m sargs below meth c A.U A.locs A.cells A.slots → g.method = m → g.locals.size = c.maxLocals → decode c.code g.pc = .ok (ig, len) →
    2 * g.monitorRoom + (g.stack.map fun v => v.category).sum ≤ W9 → A.U.methodNamed? y = some mk → Pre A a →
    (∃ (v : Option Value) (B : Pt), Stand p l e R s m sargs below meth c B.U B.locs B.cells B.slots ∧ Post A a v B ∧
      Steps p.tables e below (doInvoke e (A.U.setTop g) [] mk a).1 (B.U.setTop { g with pc := g.pc + len, stack := v.toList ++ g.stack })) ∨
    (∃ (q : Addr) (B : Pt), Stand p l e R s m sargs below meth c B.U B.locs B.cells B.slots ∧ PostX A a q B ∧
      Steps p.tables e below (doInvoke e (A.U.setTop g) [] mk a).1 ((B.U.setTop g).pushFrame (.throwing q)))
section Payer
variable {l : Launch} {R : Room} {p : Program} {e : Env} {below : List Frame} {s : State} {sargs : Array Value} {y : MethodName} {len W9 : Nat}
theorem vx_back {ws : List Cond} {rm : Room} {Pc : Array Value → State → Prop} {Qc : Array Value → State → Outcome → State → Prop} {XC : String → State → State → Prop} {mc ms : Nat} {free : Addr → Prop} {bytes : ByteArray} {maxL : Nat} {ret : Option FieldType}
    (hM : vx_Met l y ws rm Pc Qc XC mc ms free) (hblind : FrameBlind Pc) (hrc : rm.cells = mc) (hrs : rm.slots = ms)
    (hframes : rm.frames + 1 ≤ R.frames) (hlocals : W9 + (maxL + 11) + rm.locals ≤ R.locals)
    (hws : ∀ w ∈ ws, ∀ a' U, s.WarmedH U.vm → w.before a' U = true) (hcode : Cond.code y bytes maxL ret ∈ ws) (hinit : ∀ a' U, s.WarmedH U.vm → (Cond.initialized y.cls).before a' U = true) :
    vx_Back l R p e below s sargs y len W9 (PreOf R mc ms Pc) (PostOf Qc mc ms free) (vx_Post XC mc ms free) := by
  intro m meth c A g ig mk a X hg hsize hdg hW hn hp
  have h1 : (headSpec ws rm).pre.before a A.U = true := atoms_intro fun w hw => hws w hw _ _ X.warmed
  have h2 : (Cond.code y bytes maxL ret).before a A.U = true := hws _ hcode _ _ X.warmed
  have h3 : (Cond.initialized y.cls).before a A.U = true := hinit _ _ X.warmed
  have h4 : A.cells + (headSpec ws rm).room.cells ≤ R.cells := by rw [show (headSpec ws rm).room.cells = mc from hrc]; exact hp.1
  have h5 : A.slots + (headSpec ws rm).room.slots ≤ R.slots := by rw [show (headSpec ws rm).room.slots = ms from hrs]; exact hp.2.1
  have hPc : Pc a (A.U.calling g mk a) := hblind _ _ _ _ hp.2.2
  obtain ⟨U, Ls, c0, s0⟩ := A
  dsimp only [Pt.U, Pt.locs, Pt.cells, Pt.slots] at h1 h2 h3 h4 h5 X hn hPc ⊢
  obtain ⟨methY, cY, hmY, hcY, -, hlY, -, -, -, -⟩ := Cond.code_spec hn h2
  obtain ⟨kY, hkY, -⟩ := className_of_methodNamed hn
  have hinitY : kY.init = .initialized := Cond.initialized_spec (findClass_of_methodNamed hn) hkY h3
  have h : At U g.method c below := by rw [hg]; exact X.here
  have hlocals9 : W9 + (maxL + 11) + (headSpec ws rm).room.locals ≤ R.locals := hlocals
  have happ : (headSpec ws rm).appliesLoose y e.platform (U.calling g mk a) = true :=
    Spec.appliesLoose_calling (g := g) h hdg hn hkY hinitY
      (X.room_calling (g := g) (R' := (headSpec ws rm).room) hsize hmY hcY hframes (by rw [hlY]; omega) h4 h5) h1
  obtain ⟨mid, hmid⟩ := h.above
  have hfr : (U.setTop g).frames = (.java g :: mid) ++ below := by rw [State.frames_setTop' g h.top, hmid]; rfl
  obtain ⟨o, s₂, hsteps, -, hend, hq⟩ := Steps.callFree hM p X.admits X.cas X.clock (acts := []) hfr happ hPc trivial
  have hq' : vx_Q Qc XC mc ms free a (U.calling g mk a) o s₂ := hq
  rw [State.frames_setTop' g h.top] at hend
  obtain ⟨g₀, hg0⟩ := Option.isSome_iff_exists.mp h.top
  obtain ⟨r, hr⟩ := State.topJava?_eq_some.mp hg0
  have hr' : (({ U with heap := s₂.heap, slotsUsed := s₂.slotsUsed } : State).setVm s₂.vm).frames = .java g₀ :: r := hr
  rcases hq' with ⟨hqc, L, hfe, hL⟩ | ⟨q, rfl, E, ce, L, hx, hce, hcv, hcl, hW₂, hsm, hL⟩
  · obtain ⟨⟨v, rfl⟩, hW₂, e2, q2, q3, q4, q5, q6⟩ := id hfe
    have e3 : s₂ = ({ (U.calling g mk a).setFrames s₂.frames with heap := s₂.heap, slotsUsed := s₂.slotsUsed } : State).setVm s₂.vm := by
      have : s₂ = ({ s₂ with vm := (U.calling g mk a).vm } : State).setVm s₂.vm := rfl
      rw [e2] at this
      exact this
    obtain ⟨c₂, i₂, len₂, hc₂, hd₂, hf₂⟩ := hend
    have hW' : U.WarmedH s₂.vm := hW₂
    have hcc : c₂ = c := by
      have h1 : s₂.code? g.method = U.code? g.method := by
        rw [State.code?_eq, State.code?_eq, hW'.alike.method?]
      exact Option.some.inj (hc₂.symm.trans (h1.trans h.code))
    subst hcc
    have hlen : len₂ = len := by rw [hdg] at hd₂; cases hd₂; rfl
    subst hlen
    have hs₂ : s₂ = (({ U with heap := s₂.heap, slotsUsed := s₂.slotsUsed } : State).setVm s₂.vm).setTop { g with pc := g.pc + len₂, stack := v.toList ++ g.stack } := by
      refine e3.trans ?_
      rw [hf₂, State.calling_eq h.top, State.setFrames_setFrames, State.setTop_of_frames _ hr', hr]
      rfl
    have hsame : U.sameButNew ({ U with heap := s₂.heap, slotsUsed := s₂.slotsUsed } : State) L mc ms := by
      refine ⟨?_, q2, q3, q4, q5, q6⟩
      obtain ⟨t, ht, -⟩ := State.frames_cons hr
      show ({ U with heap := s₂.heap, slotsUsed := s₂.slotsUsed } : State) = { U.setFrames U.frames with heap := s₂.heap, slotsUsed := s₂.slotsUsed }
      rw [State.setFrames_self ht]
    subst hg
    refine Or.inl ⟨v, ⟨(({ U with heap := s₂.heap, slotsUsed := s₂.slotsUsed } : State).setVm s₂.vm), Ls ++ L, c0 + mc, s0 + ms⟩,
      ⟨X.admits, X.cas, X.clock, X.frames, X.room, X.hears, X.method, X.code, (X.here.setHeapUsed s₂.heap s₂.slotsUsed).setVm hW'.alike, X.tail, State.WarmedH.trans X.warmed hW', X.limits, X.bytes, X.same.trans (hsame.setVm s.vm)⟩,
      ⟨g, mk, s₂, L, rfl, rfl, hqc, rfl, hL, rfl, rfl⟩, ?_⟩
    show Steps p.tables e below _ ((({ U with heap := s₂.heap, slotsUsed := s₂.slotsUsed } : State).setVm s₂.vm).setTop { g with pc := g.pc + len₂, stack := v.toList ++ g.stack })
    rw [← hs₂]
    exact hsteps
  · obtain ⟨e2, q2, q3, q4, q5, q6⟩ := id hsm
    have e3 : s₂ = ({ (U.calling g mk a).setFrames s₂.frames with heap := s₂.heap, slotsUsed := s₂.slotsUsed } : State).setVm s₂.vm := by
      have : s₂ = ({ s₂ with vm := (U.calling g mk a).vm } : State).setVm s₂.vm := rfl
      rw [e2] at this
      exact this
    have hf₂ : s₂.frames = .throwing q :: .java g :: U.frames.tail := hend
    have hW' : U.WarmedH s₂.vm := hW₂
    have hs₂ : s₂ = ((({ U with heap := s₂.heap, slotsUsed := s₂.slotsUsed } : State).setVm s₂.vm).setTop g).pushFrame (.throwing q) := by
      refine e3.trans ?_
      rw [hf₂, State.calling_eq h.top, State.setFrames_setFrames, State.pushFrame, State.frames_setTop _ hr', State.setTop_of_frames _ hr', State.setFrames_setFrames, hr]
      rfl
    have hsame : U.sameButNew ({ U with heap := s₂.heap, slotsUsed := s₂.slotsUsed } : State) L mc ms := by
      refine ⟨?_, q2, q3, q4, q5, q6⟩
      obtain ⟨t, ht, -⟩ := State.frames_cons hr
      show ({ U with heap := s₂.heap, slotsUsed := s₂.slotsUsed } : State) = { U.setFrames U.frames with heap := s₂.heap, slotsUsed := s₂.slotsUsed }
      rw [State.setFrames_self ht]
    subst hg
    refine Or.inr ⟨q, ⟨(({ U with heap := s₂.heap, slotsUsed := s₂.slotsUsed } : State).setVm s₂.vm), Ls ++ L, c0 + mc, s0 + ms⟩,
      ⟨X.admits, X.cas, X.clock, X.frames, X.room, X.hears, X.method, X.code, (X.here.setHeapUsed s₂.heap s₂.slotsUsed).setVm hW'.alike, X.tail, State.WarmedH.trans X.warmed hW', X.limits, X.bytes, X.same.trans (hsame.setVm s.vm)⟩,
      ⟨g, mk, s₂, L, E, ce, rfl, rfl, hx, hce, hcv, hcl, rfl, hL, rfl, rfl⟩, ?_⟩
    show Steps p.tables e below _ (((({ U with heap := s₂.heap, slotsUsed := s₂.slotsUsed } : State).setVm s₂.vm).setTop g).pushFrame (.throwing q))
    rw [← hs₂]
    exact hsteps
end Payer
section Calls
variable {p : Program} {l : Launch} {e : Env} {R : Room} {s : State} {m : MethodId} {args : Array Value} {below : List Frame} {meth : Method} {c : Code} {T : State} {locs : List Loc} {cells slots : Nat}
theorem vx_callV (X : Stand p l e R s m args below meth c T locs cells slots) (hexec : p.tables.exec = Jvm.exec) {own C : String} {index : Nat} {y : MethodName} {bytes : ByteArray} {maxL : Nat} {ret : Option FieldType}
    (hown : s.vm.findClass own = some m.cls) (hlink : (Cond.methodLink own index y).before args s = true) (hinst : (Cond.instanceMethod y).before args s = true) (hsel : (Cond.selects C y y).before args s = true)
    (hcode : (Cond.code y bytes maxL ret).before args s = true) (hy : y.cls ≠ "java/lang/invoke/MethodHandle" ∧ y.cls ≠ "java/lang/invoke/VarHandle")
    {W9 : Nat} {Pre : Pt → Array Value → Prop} {Post : Pt → Array Value → Option Value → Pt → Prop} {PostX : Pt → Array Value → Addr → Pt → Prop} (hK : vx_Back l R p e below s args y 3 W9 Pre Post PostX)
    {b : Addr} {cellB : Cell} (hcell : T.heap[b]? = some cellB) (hobj : cellB.vm.isStatics = false) (hcls : s.vm.findClass C = some cellB.cls)
    {g : JFrame} (hg : g.method = m) (hsize : g.locals.size = c.maxLocals) {argsL rest : List Value} (hlen : ∀ sig, parseMethodDescriptor y.desc = some sig → argsL.length = sig.parameters.length)
    (hstack : g.stack = argsL.reverse ++ .ref b :: rest) (hW : 2 * g.monitorRoom + (rest.map fun v => v.category).sum ≤ W9) (hdg : decode c.code g.pc = .ok (.invokevirtual index, 3))
    (hpre : ∀ vm₁, s.WarmedH vm₁ → Pre ⟨T.setVm vm₁, locs, cells, slots⟩ (Value.ref b :: argsL).toArray) :
    (∃ (v : Option Value) (vm₁ : Vm) (B : Pt), s.WarmedH vm₁ ∧ Stand p l e R s m args below meth c B.U B.locs B.cells B.slots ∧ Post ⟨T.setVm vm₁, locs, cells, slots⟩ (Value.ref b :: argsL).toArray v B ∧
      ∀ target, Steps p.tables e below (B.U.setTop { g with pc := g.pc + 3, stack := v.toList ++ rest }) target → Steps p.tables e below (T.setTop g) target) ∨
    (∃ (q : Addr) (vm₁ : Vm) (B : Pt), s.WarmedH vm₁ ∧ Stand p l e R s m args below meth c B.U B.locs B.cells B.slots ∧ PostX ⟨T.setVm vm₁, locs, cells, slots⟩ (Value.ref b :: argsL).toArray q B ∧
      Steps p.tables e below (T.setTop g) ((B.U.setTop { g with stack := rest }).pushFrame (.throwing q))) := by
  obtain ⟨mk, methM, hnamed, hmethM, hstM, habM⟩ := Cond.instanceMethod_spec hinst
  obtain ⟨methM', cM, hmethM', -, -, -, -, -, -, hsigM⟩ := Cond.code_spec hnamed hcode
  cases hmethM.symm.trans hmethM'
  obtain ⟨c2, r2, m2, q1, q2, q3, q4, kP, hkP, hkPi⟩ := Cond.selects_spec hsel
  cases hcls.symm.trans q1
  cases (State.methodFound?_of_named hnamed hy).symm.trans q2
  cases hnamed.symm.trans q3
  have hselP : selectMethod e.platform s.vm cellB.cls mk = .method mk := by rw [Launch.admits_selectMethod X.admits]; exact q4
  obtain ⟨vm₁, X₁, hstep₁⟩ := X.invokevirtual hexec hown hlink hnamed hmethM hstM hkP hkPi hy (a := b) (cell := cellB) hcell
    (fun z h => by rw [h] at hobj; cases hobj) hselP hmethM habM hkP hkPi (g := g) hg (argsL := argsL) (rest := rest) (hlen _ hsigM) hstack hdg
  rcases hK m meth c ⟨T.setVm vm₁, locs, cells, slots⟩ { g with stack := rest } (.invokevirtual index) mk (Value.ref b :: argsL).toArray X₁ hg hsize hdg hW (X₁.named hnamed) (hpre vm₁ X₁.warmed) with ⟨v, B, X', hpost, hsteps⟩ | ⟨q, B, X', hpost, hsteps⟩
  · exact Or.inl ⟨v, vm₁, B, X₁.warmed, X', hpost, fun target h => hstep₁ _ fun acts => by rw [doInvoke_state]; exact hsteps.trans h⟩
  · exact Or.inr ⟨q, vm₁, B, X₁.warmed, X', hpost, hstep₁ _ fun acts => by rw [doInvoke_state]; exact hsteps⟩
theorem vx_callS (X : Stand p l e R s m args below meth c T locs cells slots) (hexec : p.tables.exec = Jvm.exec) {own : String} {index : Nat} {y : MethodName} {bytes : ByteArray} {maxL : Nat} {ret : Option FieldType}
    (hown : s.vm.findClass own = some m.cls) (hlink : (Cond.methodLink own index y).before args s = true) (hstat : (Cond.static y).before args s = true) (hinit : (Cond.initialized y.cls).before args s = true)
    (hcode : (Cond.code y bytes maxL ret).before args s = true) (hy : y.cls ≠ "java/lang/invoke/MethodHandle" ∧ y.cls ≠ "java/lang/invoke/VarHandle")
    {W9 : Nat} {Pre : Pt → Array Value → Prop} {Post : Pt → Array Value → Option Value → Pt → Prop} {PostX : Pt → Array Value → Addr → Pt → Prop} (hK : vx_Back l R p e below s args y 3 W9 Pre Post PostX)
    {g : JFrame} (hg : g.method = m) (hsize : g.locals.size = c.maxLocals) {argsL rest : List Value} (hlen : ∀ sig, parseMethodDescriptor y.desc = some sig → argsL.length = sig.parameters.length)
    (hstack : g.stack = argsL.reverse ++ rest) (hW : 2 * g.monitorRoom + (rest.map fun v => v.category).sum ≤ W9) (hdg : decode c.code g.pc = .ok (.invokestatic index, 3))
    (hpre : ∀ vm₁, s.WarmedH vm₁ → Pre ⟨T.setVm vm₁, locs, cells, slots⟩ argsL.toArray) :
    (∃ (v : Option Value) (vm₁ : Vm) (B : Pt), s.WarmedH vm₁ ∧ Stand p l e R s m args below meth c B.U B.locs B.cells B.slots ∧ Post ⟨T.setVm vm₁, locs, cells, slots⟩ argsL.toArray v B ∧
      ∀ target, Steps p.tables e below (B.U.setTop { g with pc := g.pc + 3, stack := v.toList ++ rest }) target → Steps p.tables e below (T.setTop g) target) ∨
    (∃ (q : Addr) (vm₁ : Vm) (B : Pt), s.WarmedH vm₁ ∧ Stand p l e R s m args below meth c B.U B.locs B.cells B.slots ∧ PostX ⟨T.setVm vm₁, locs, cells, slots⟩ argsL.toArray q B ∧
      Steps p.tables e below (T.setTop g) ((B.U.setTop { g with stack := rest }).pushFrame (.throwing q))) := by
  obtain ⟨mk, hnamed⟩ := Cond.code_named hcode
  obtain ⟨methM, cM, hmethM, -, -, -, -, -, -, hsigM⟩ := Cond.code_spec hnamed hcode
  have hstatic : methM.isStatic = true := Cond.static_spec hnamed hmethM hstat
  obtain ⟨kP, hkP, -⟩ := className_of_methodNamed hnamed
  have hinitP : kP.init = .initialized := Cond.initialized_spec (findClass_of_methodNamed hnamed) hkP hinit
  obtain ⟨vm₁, X₁, hstep₁⟩ := X.invokestatic hexec hown hlink hnamed hmethM hstatic hkP hinitP hy (g := g) hg (argsL := argsL) (rest := rest) (hlen _ hsigM) hstack hdg
  rcases hK m meth c ⟨T.setVm vm₁, locs, cells, slots⟩ { g with stack := rest } (.invokestatic index) mk argsL.toArray X₁ hg hsize hdg hW (X₁.named hnamed) (hpre vm₁ X₁.warmed) with ⟨v, B, X', hpost, hsteps⟩ | ⟨q, B, X', hpost, hsteps⟩
  · exact Or.inl ⟨v, vm₁, B, X₁.warmed, X', hpost, fun target h => hstep₁ _ fun acts => by rw [doInvoke_state]; exact hsteps.trans h⟩
  · exact Or.inr ⟨q, vm₁, B, X₁.warmed, X', hpost, hstep₁ _ fun acts => by rw [doInvoke_state]; exact hsteps⟩
end Calls
theorem vx_cls {s : State} {T : State} {vm₁ : Vm} {E : String} {k : ClassId} (hW : s.WarmedH vm₁) (h : (T.setVm vm₁).vm.findClass E = some k) : s.vm.findClass E = some k := by
  have h1 : vm₁.findClass E = some k := h
  rw [hW.alike.findClass] at h1
  exact h1
/-- the method's frame g, with q thrown over it -/
def vx_W (p : Program) (l : Launch) (e : Env) (R : Room) (s : State) (m : MethodId) (args : Array Value) (below : List Frame) (meth : Method) (c : Code) (H : Heap) (locs : List Loc) (cells slots : Nat) (Q : State → Prop) (g : JFrame) (q : Addr) : Prop :=
  ∀ T : State, T.heap = H → Stand p l e R s m args below meth c T locs cells slots → ∃ t, Steps p.tables e below ((T.setTop g).pushFrame (.throwing q)) t ∧ Q t
def vx_Run (p : Program) (l : Launch) (e : Env) (R : Room) (s : State) (m : MethodId) (args : Array Value) (below : List Frame) (meth : Method) (c : Code) (H : Heap) (locs : List Loc) (cells slots mc ms : Nat) (g : JFrame) (rest : List Value) (Qa : State → Outcome → State → Prop) (XC : String → State → State → Prop) (free : Addr → Prop) : Prop :=
  ∀ T : State, T.heap = H → Stand p l e R s m args below meth c T locs cells slots →
    (∃ (v : Option Value) (st₀ t T' : State) (L : List Loc), st₀.heap = H ∧ Stand p l e R s m args below meth c T' (locs ++ L) (cells + mc) (slots + ms) ∧ (∀ q ∈ L, free q.base) ∧ T'.heap = t.heap ∧ T'.vm = t.vm ∧ Qa st₀ (.returned v) t ∧
      Goes p e below T g T' { g with pc := g.pc + 3, stack := v.toList ++ rest }) ∨
    (∃ (q : Addr) (st₀ t T' : State) (L : List Loc) (E : String) (ce : Cell), st₀.heap = H ∧ Stand p l e R s m args below meth c T' (locs ++ L) (cells + mc) (slots + ms) ∧ (∀ z ∈ L, free z.base) ∧ T'.heap = t.heap ∧ T'.vm = t.vm ∧ XC E st₀ t ∧ t.heap[q]? = some ce ∧ ce.vm = .none ∧ s.vm.findClass E = some ce.cls ∧
      Steps p.tables e below (T.setTop g) ((T'.setTop { g with stack := rest }).pushFrame (.throwing q)))
def vx_X {S : Type} (px : S → Prop) (B : String → S → State → Prop) (A : Nat → Prop) : String → State → State → Prop := fun E st t => ∃ u : S, px u ∧ B E u t ∧ va_F A st t
section Runs
variable {p : Program} {l : Launch} {e : Env} {R : Room} {s : State} {m : MethodId} {args : Array Value} {below : List Frame} {meth : Method} {c : Code} {H : Heap} {locs : List Loc} {cells slots : Nat}
variable {y : MethodName} {bytes cc : ByteArray} {maxL nL mc ms n index : Nat} {ret : Option FieldType} {ws : List Cond} {rm : Room} {Pc : Array Value → State → Prop} {Qc : Array Value → State → Outcome → State → Prop} {XC : String → State → State → Prop} {free : Addr → Prop} {Ts : List Cond} {own C : String} {b : Addr} {As rest : List Value} {g : JFrame}
theorem vx_callBack (cb : CallB R s args own index y bytes maxL ret ws rm mc ms n) (hM : vx_Met l y ws rm Pc Qc XC mc ms free) (hbl : FrameBlind Pc) : vx_Back l R p e below s args y 3 8 (PreOf R mc ms Pc) (PostOf Qc mc ms free) (vx_Post XC mc ms free) := by
  obtain ⟨hrc, hrs, hfr, hlo, hws, hcw, -, hini, -⟩ := cb
  exact vx_back (bytes := bytes) (maxL := maxL) (ret := ret) hM hbl hrc hrs hfr hlo hws hcw (fun a' U hW => word_at hW (Or.inl (by first | rfl | simp [Cond.onTables, Cond.keeps, Cond.steady])) hini)
theorem vx_runV (S : CallFix p m c cc nL s args Ts own) (hM : vx_Met l y ws rm Pc Qc XC mc ms free) (cw : CallW R s args own C index y bytes maxL ret ws rm mc ms n) (hp : PreV s H C b Pc As)
    (hg : g.method = m) (hn : As.length = n) (hsize : g.locals.size = nL) (hstack : g.stack = As.reverse ++ .ref b :: rest) (hW : 2 * g.monitorRoom + (rest.map fun v => v.category).sum ≤ 8) (hdg : decode cc g.pc = .ok (.invokevirtual index, 3)) (hf : cells + mc ≤ R.cells ∧ slots + ms ≤ R.slots) :
    vx_Run p l e R s m args below meth c H locs cells slots mc ms g rest (Qc (Value.ref b :: As).toArray) XC free := by
  have hK : vx_Back l R p e below s args y 3 8 (PreOf R mc ms Pc) (PostOf Qc mc ms free) (vx_Post XC mc ms free) := vx_callBack cw.1 hM hp.1
  obtain ⟨⟨-, -, -, -, -, -, hcode, -, hy, hlen, hl⟩, hin, hse⟩ := cw
  obtain ⟨hx, hb, hml, ho, -⟩ := S
  obtain ⟨-, ⟨cellB, hcB, hoB, hclB⟩, hPc⟩ := hp
  intro T hT X
  rcases vx_callV X hx (C := C) (bytes := bytes) (maxL := maxL) (ret := ret) ho hl hin hse hcode hy hK (by rw [hT]; exact hcB) hoB hclB hg (hsize.trans hml.symm) (argsL := As) (rest := rest) (fun sig h => hn.trans (hlen sig h)) hstack hW (by rw [hb]; exact hdg)
    (fun vm₁ hW₁ => ⟨hf.1, hf.2, hPc (T.setVm vm₁) hT hW₁⟩) with ⟨v, vm₁, ⟨U', l2, c2, s2⟩, hW₁, X', ⟨g', mk, t, L, e1, e2, hq, h1, hL, h2, h3⟩, st⟩ | ⟨q, vm₁, ⟨U', l2, c2, s2⟩, hW₁, X', ⟨g', mk, t, L, E, ce, e1, e2, hq, hce, hcv, hcl, h1, hL, h2, h3⟩, st⟩
  · dsimp only [Pt.U, Pt.locs, Pt.cells, Pt.slots] at X' e1 e2 h1 h2 h3 st
    subst h1; subst h2; subst h3
    exact Or.inl ⟨v, (T.setVm vm₁).calling g' mk (Value.ref b :: As).toArray, t, U', L, hT, X', hL, e1, e2, hq, st⟩
  · dsimp only [Pt.U, Pt.locs, Pt.cells, Pt.slots] at X' e1 e2 h1 h2 h3 st hcl
    subst h1; subst h2; subst h3
    exact Or.inr ⟨q, (T.setVm vm₁).calling g' mk (Value.ref b :: As).toArray, t, U', L, E, ce, hT, X', hL, e1, e2, hq, hce, hcv, vx_cls hW₁ hcl, st⟩
theorem vx_runS (S : CallFix p m c cc nL s args Ts own) (hM : vx_Met l y ws rm Pc Qc XC mc ms free) (cw : CallB R s args own index y bytes maxL ret ws rm mc ms n ∧ (Cond.static y).before args s = true) (hp : PreS s H Pc As)
    (hg : g.method = m) (hn : As.length = n) (hsize : g.locals.size = nL) (hstack : g.stack = As.reverse ++ rest) (hW : 2 * g.monitorRoom + (rest.map fun v => v.category).sum ≤ 8) (hdg : decode cc g.pc = .ok (.invokestatic index, 3)) (hf : cells + mc ≤ R.cells ∧ slots + ms ≤ R.slots) :
    vx_Run p l e R s m args below meth c H locs cells slots mc ms g rest (Qc As.toArray) XC free := by
  have hK : vx_Back l R p e below s args y 3 8 (PreOf R mc ms Pc) (PostOf Qc mc ms free) (vx_Post XC mc ms free) := vx_callBack cw.1 hM hp.1
  obtain ⟨⟨-, -, -, -, -, -, hcode, hini, hy, hlen, hl⟩, hstt⟩ := cw
  obtain ⟨hx, hb, hml, ho, -⟩ := S
  intro T hT X
  rcases vx_callS X hx (bytes := bytes) (maxL := maxL) (ret := ret) ho hl hstt hini hcode hy hK hg (hsize.trans hml.symm) (argsL := As) (rest := rest) (fun sig h => hn.trans (hlen sig h)) hstack hW (by rw [hb]; exact hdg)
    (fun vm₁ hW₁ => ⟨hf.1, hf.2, hp.2 (T.setVm vm₁) hT hW₁⟩) with ⟨v, vm₁, ⟨U', l2, c2, s2⟩, hW₁, X', ⟨g', mk, t, L, e1, e2, hq, h1, hL, h2, h3⟩, st⟩ | ⟨q, vm₁, ⟨U', l2, c2, s2⟩, hW₁, X', ⟨g', mk, t, L, E, ce, e1, e2, hq, hce, hcv, hcl, h1, hL, h2, h3⟩, st⟩
  · dsimp only [Pt.U, Pt.locs, Pt.cells, Pt.slots] at X' e1 e2 h1 h2 h3 st
    subst h1; subst h2; subst h3
    exact Or.inl ⟨v, (T.setVm vm₁).calling g' mk As.toArray, t, U', L, hT, X', hL, e1, e2, hq, st⟩
  · dsimp only [Pt.U, Pt.locs, Pt.cells, Pt.slots] at X' e1 e2 h1 h2 h3 st hcl
    subst h1; subst h2; subst h3
    exact Or.inr ⟨q, (T.setVm vm₁).calling g' mk As.toArray, t, U', L, E, ce, hT, X', hL, e1, e2, hq, hce, hcv, vx_cls hW₁ hcl, st⟩
end Runs
section Rows
variable {p : Program} {l : Launch} {e : Env} {R : Room} {s : State} {m : MethodId} {args : Array Value} {below : List Frame} {meth : Method} {c : Code} {H : Heap} {locs : List Loc} {cells slots : Nat} {Q : State → Prop}
variable {mc ms : Nat} {free : Addr → Prop} {A0 A1 : Nat → Prop} {H0 : Heap} {a : Array Value} {pc : Nat} {ls : Array Slot} {st0 rest : List Value}
theorem vx_keep {st₀ t T' : State} {L : List Loc} (h0 : st₀.heap = H) (e1 : T'.heap = t.heap) (hS : va_S A0 H0 H locs) (hA : ∀ q, q < H.size → A1 q → A0 q) (hf : ∀ q, free q → A0 q) (hL : ∀ q ∈ L, free q.base) (hF : va_F A1 st₀ t) :
    H.size ≤ T'.heap.size ∧ (∀ q : Nat, q < H.size → ¬ A1 q → T'.heap[q]? = H[q]?) ∧ va_S A0 H0 T'.heap (locs ++ L) := by
  obtain ⟨hz, hk⟩ := hF
  rw [h0] at hz hk
  exact ⟨by rw [e1]; exact hz, fun q h1 h2 => by rw [e1]; exact hk q h1 h2,
    ⟨Nat.le_trans hS.1 (by rw [e1]; exact hz), fun q h1 h2 => by rw [e1, hk q (Nat.lt_of_lt_of_le h1 hS.1) (fun z => h2 (hA q (Nat.lt_of_lt_of_le h1 hS.1) z))]; exact hS.2.1 q h1 h2, fun q hq => by
      rcases List.mem_append.mp hq with h | h
      · exact hS.2.2 q h
      · exact hf _ (hL q h)⟩⟩
theorem vx_calli {S SX : Type} {post : Int32 → S → Prop} {px : SX → Prop} {B : S → State → Prop} {BX : String → SX → State → Prop} {AX : Nat → Prop} (hr : vx_Run p l e R s m args below meth c H locs cells slots mc ms (F0 m pc ls st0) rest (va_Qi post B A1 a) (vx_X px BX AX) free) (hS : va_S A0 H0 H locs) (hA : ∀ q, q < H.size → A1 q → A0 q) (hf : ∀ q, free q → A0 q) (hAX : ∀ q, q < H.size → AX q → A0 q)
    (kx : ∀ (E : String) (ce : Cell) (q9 : Addr) (u : SX) (t : State) (H1 : Heap) (locs1 : List Loc), t.heap = H1 → s.vm.Alike t.vm → px u → BX E u t → H.size ≤ H1.size → (∀ q : Nat, q < H.size → ¬ AX q → H1[q]? = H[q]?) → va_S A0 H0 H1 locs1 → H1[q9]? = some ce → ce.vm = .none → s.vm.findClass E = some ce.cls → vx_W p l e R s m args below meth c H1 locs1 (cells + mc) (slots + ms) Q (F0 m pc ls rest) q9)
    (kk : ∀ (r : Int32) (u : S) (t : State) (H1 : Heap) (locs1 : List Loc), t.heap = H1 → s.vm.Alike t.vm → post r u → B u t → H.size ≤ H1.size → (∀ q : Nat, q < H.size → ¬ A1 q → H1[q]? = H[q]?) → va_S A0 H0 H1 locs1 → W p l e R s m args below meth c H1 locs1 (cells + mc) (slots + ms) Q (F0 m (pc + 3) ls (.int r :: rest))) : W p l e R s m args below meth c H locs cells slots Q (F0 m pc ls st0) := by
  intro T hT X
  rcases hr T hT X with ⟨v, st₀, t, T', L, h0, X', hL, e1, e2, ⟨⟨r, u, hv, hp, hb⟩, hF⟩, st⟩ | ⟨q, st₀, t, T', L, E, ce, h0, X', hL, e1, e2, ⟨u, hp, hb, hF⟩, hce, hcv, hcl, st⟩
  · cases hv
    obtain ⟨k1, k2, k3⟩ := vx_keep h0 e1 hS hA hf hL hF
    obtain ⟨t2, a1, b1⟩ := kk r u t T'.heap (locs ++ L) e1.symm (by rw [← e2]; exact X'.warmed.alike) hp hb k1 k2 k3 T' rfl X'
    exact ⟨t2, st t2 a1, b1⟩
  · obtain ⟨k1, k2, k3⟩ := vx_keep h0 e1 hS hAX hf hL hF
    obtain ⟨t2, a1, b1⟩ := kx E ce q u t T'.heap (locs ++ L) e1.symm (by rw [← e2]; exact X'.warmed.alike) hp hb k1 k2 k3 (by rw [e1]; exact hce) hcv hcl T' rfl X'
    exact ⟨t2, st.trans a1, b1⟩
theorem vx_calll {S SX : Type} {post : Int64 → S → Prop} {px : SX → Prop} {B : S → State → Prop} {BX : String → SX → State → Prop} {AX : Nat → Prop} (hr : vx_Run p l e R s m args below meth c H locs cells slots mc ms (F0 m pc ls st0) rest (va_Ql post B A1 a) (vx_X px BX AX) free) (hS : va_S A0 H0 H locs) (hA : ∀ q, q < H.size → A1 q → A0 q) (hf : ∀ q, free q → A0 q) (hAX : ∀ q, q < H.size → AX q → A0 q)
    (kx : ∀ (E : String) (ce : Cell) (q9 : Addr) (u : SX) (t : State) (H1 : Heap) (locs1 : List Loc), t.heap = H1 → s.vm.Alike t.vm → px u → BX E u t → H.size ≤ H1.size → (∀ q : Nat, q < H.size → ¬ AX q → H1[q]? = H[q]?) → va_S A0 H0 H1 locs1 → H1[q9]? = some ce → ce.vm = .none → s.vm.findClass E = some ce.cls → vx_W p l e R s m args below meth c H1 locs1 (cells + mc) (slots + ms) Q (F0 m pc ls rest) q9)
    (kk : ∀ (r : Int64) (u : S) (t : State) (H1 : Heap) (locs1 : List Loc), t.heap = H1 → s.vm.Alike t.vm → post r u → B u t → H.size ≤ H1.size → (∀ q : Nat, q < H.size → ¬ A1 q → H1[q]? = H[q]?) → va_S A0 H0 H1 locs1 → W p l e R s m args below meth c H1 locs1 (cells + mc) (slots + ms) Q (F0 m (pc + 3) ls (.long r :: rest))) : W p l e R s m args below meth c H locs cells slots Q (F0 m pc ls st0) := by
  intro T hT X
  rcases hr T hT X with ⟨v, st₀, t, T', L, h0, X', hL, e1, e2, ⟨⟨r, u, hv, hp, hb⟩, hF⟩, st⟩ | ⟨q, st₀, t, T', L, E, ce, h0, X', hL, e1, e2, ⟨u, hp, hb, hF⟩, hce, hcv, hcl, st⟩
  · cases hv
    obtain ⟨k1, k2, k3⟩ := vx_keep h0 e1 hS hA hf hL hF
    obtain ⟨t2, a1, b1⟩ := kk r u t T'.heap (locs ++ L) e1.symm (by rw [← e2]; exact X'.warmed.alike) hp hb k1 k2 k3 T' rfl X'
    exact ⟨t2, st t2 a1, b1⟩
  · obtain ⟨k1, k2, k3⟩ := vx_keep h0 e1 hS hAX hf hL hF
    obtain ⟨t2, a1, b1⟩ := kx E ce q u t T'.heap (locs ++ L) e1.symm (by rw [← e2]; exact X'.warmed.alike) hp hb k1 k2 k3 (by rw [e1]; exact hce) hcv hcl T' rfl X'
    exact ⟨t2, st.trans a1, b1⟩
theorem vx_callf {S SX : Type} {post : UInt32 → S → Prop} {px : SX → Prop} {B : S → State → Prop} {BX : String → SX → State → Prop} {AX : Nat → Prop} (hr : vx_Run p l e R s m args below meth c H locs cells slots mc ms (F0 m pc ls st0) rest (va_Qf post B A1 a) (vx_X px BX AX) free) (hS : va_S A0 H0 H locs) (hA : ∀ q, q < H.size → A1 q → A0 q) (hf : ∀ q, free q → A0 q) (hAX : ∀ q, q < H.size → AX q → A0 q)
    (kx : ∀ (E : String) (ce : Cell) (q9 : Addr) (u : SX) (t : State) (H1 : Heap) (locs1 : List Loc), t.heap = H1 → s.vm.Alike t.vm → px u → BX E u t → H.size ≤ H1.size → (∀ q : Nat, q < H.size → ¬ AX q → H1[q]? = H[q]?) → va_S A0 H0 H1 locs1 → H1[q9]? = some ce → ce.vm = .none → s.vm.findClass E = some ce.cls → vx_W p l e R s m args below meth c H1 locs1 (cells + mc) (slots + ms) Q (F0 m pc ls rest) q9)
    (kk : ∀ (r : UInt32) (u : S) (t : State) (H1 : Heap) (locs1 : List Loc), t.heap = H1 → s.vm.Alike t.vm → post r u → B u t → H.size ≤ H1.size → (∀ q : Nat, q < H.size → ¬ A1 q → H1[q]? = H[q]?) → va_S A0 H0 H1 locs1 → W p l e R s m args below meth c H1 locs1 (cells + mc) (slots + ms) Q (F0 m (pc + 3) ls (.float r :: rest))) : W p l e R s m args below meth c H locs cells slots Q (F0 m pc ls st0) := by
  intro T hT X
  rcases hr T hT X with ⟨v, st₀, t, T', L, h0, X', hL, e1, e2, ⟨⟨r, u, hv, hp, hb⟩, hF⟩, st⟩ | ⟨q, st₀, t, T', L, E, ce, h0, X', hL, e1, e2, ⟨u, hp, hb, hF⟩, hce, hcv, hcl, st⟩
  · cases hv
    obtain ⟨k1, k2, k3⟩ := vx_keep h0 e1 hS hA hf hL hF
    obtain ⟨t2, a1, b1⟩ := kk r u t T'.heap (locs ++ L) e1.symm (by rw [← e2]; exact X'.warmed.alike) hp hb k1 k2 k3 T' rfl X'
    exact ⟨t2, st t2 a1, b1⟩
  · obtain ⟨k1, k2, k3⟩ := vx_keep h0 e1 hS hAX hf hL hF
    obtain ⟨t2, a1, b1⟩ := kx E ce q u t T'.heap (locs ++ L) e1.symm (by rw [← e2]; exact X'.warmed.alike) hp hb k1 k2 k3 (by rw [e1]; exact hce) hcv hcl T' rfl X'
    exact ⟨t2, st.trans a1, b1⟩
theorem vx_calld {S SX : Type} {post : UInt64 → S → Prop} {px : SX → Prop} {B : S → State → Prop} {BX : String → SX → State → Prop} {AX : Nat → Prop} (hr : vx_Run p l e R s m args below meth c H locs cells slots mc ms (F0 m pc ls st0) rest (va_Qd post B A1 a) (vx_X px BX AX) free) (hS : va_S A0 H0 H locs) (hA : ∀ q, q < H.size → A1 q → A0 q) (hf : ∀ q, free q → A0 q) (hAX : ∀ q, q < H.size → AX q → A0 q)
    (kx : ∀ (E : String) (ce : Cell) (q9 : Addr) (u : SX) (t : State) (H1 : Heap) (locs1 : List Loc), t.heap = H1 → s.vm.Alike t.vm → px u → BX E u t → H.size ≤ H1.size → (∀ q : Nat, q < H.size → ¬ AX q → H1[q]? = H[q]?) → va_S A0 H0 H1 locs1 → H1[q9]? = some ce → ce.vm = .none → s.vm.findClass E = some ce.cls → vx_W p l e R s m args below meth c H1 locs1 (cells + mc) (slots + ms) Q (F0 m pc ls rest) q9)
    (kk : ∀ (r : UInt64) (u : S) (t : State) (H1 : Heap) (locs1 : List Loc), t.heap = H1 → s.vm.Alike t.vm → post r u → B u t → H.size ≤ H1.size → (∀ q : Nat, q < H.size → ¬ A1 q → H1[q]? = H[q]?) → va_S A0 H0 H1 locs1 → W p l e R s m args below meth c H1 locs1 (cells + mc) (slots + ms) Q (F0 m (pc + 3) ls (.double r :: rest))) : W p l e R s m args below meth c H locs cells slots Q (F0 m pc ls st0) := by
  intro T hT X
  rcases hr T hT X with ⟨v, st₀, t, T', L, h0, X', hL, e1, e2, ⟨⟨r, u, hv, hp, hb⟩, hF⟩, st⟩ | ⟨q, st₀, t, T', L, E, ce, h0, X', hL, e1, e2, ⟨u, hp, hb, hF⟩, hce, hcv, hcl, st⟩
  · cases hv
    obtain ⟨k1, k2, k3⟩ := vx_keep h0 e1 hS hA hf hL hF
    obtain ⟨t2, a1, b1⟩ := kk r u t T'.heap (locs ++ L) e1.symm (by rw [← e2]; exact X'.warmed.alike) hp hb k1 k2 k3 T' rfl X'
    exact ⟨t2, st t2 a1, b1⟩
  · obtain ⟨k1, k2, k3⟩ := vx_keep h0 e1 hS hAX hf hL hF
    obtain ⟨t2, a1, b1⟩ := kx E ce q u t T'.heap (locs ++ L) e1.symm (by rw [← e2]; exact X'.warmed.alike) hp hb k1 k2 k3 (by rw [e1]; exact hce) hcv hcl T' rfl X'
    exact ⟨t2, st.trans a1, b1⟩
theorem vx_callv {S SX : Type} {post : S → Prop} {px : SX → Prop} {B : S → State → Prop} {BX : String → SX → State → Prop} {AX : Nat → Prop} (hr : vx_Run p l e R s m args below meth c H locs cells slots mc ms (F0 m pc ls st0) rest (va_Qv post B A1 a) (vx_X px BX AX) free) (hS : va_S A0 H0 H locs) (hA : ∀ q, q < H.size → A1 q → A0 q) (hf : ∀ q, free q → A0 q) (hAX : ∀ q, q < H.size → AX q → A0 q)
    (kx : ∀ (E : String) (ce : Cell) (q9 : Addr) (u : SX) (t : State) (H1 : Heap) (locs1 : List Loc), t.heap = H1 → s.vm.Alike t.vm → px u → BX E u t → H.size ≤ H1.size → (∀ q : Nat, q < H.size → ¬ AX q → H1[q]? = H[q]?) → va_S A0 H0 H1 locs1 → H1[q9]? = some ce → ce.vm = .none → s.vm.findClass E = some ce.cls → vx_W p l e R s m args below meth c H1 locs1 (cells + mc) (slots + ms) Q (F0 m pc ls rest) q9)
    (kk : ∀ (u : S) (t : State) (H1 : Heap) (locs1 : List Loc), t.heap = H1 → s.vm.Alike t.vm → post u → B u t → H.size ≤ H1.size → (∀ q : Nat, q < H.size → ¬ A1 q → H1[q]? = H[q]?) → va_S A0 H0 H1 locs1 → W p l e R s m args below meth c H1 locs1 (cells + mc) (slots + ms) Q (F0 m (pc + 3) ls (rest))) : W p l e R s m args below meth c H locs cells slots Q (F0 m pc ls st0) := by
  intro T hT X
  rcases hr T hT X with ⟨v, st₀, t, T', L, h0, X', hL, e1, e2, ⟨⟨u, hv, hp, hb⟩, hF⟩, st⟩ | ⟨q, st₀, t, T', L, E, ce, h0, X', hL, e1, e2, ⟨u, hp, hb, hF⟩, hce, hcv, hcl, st⟩
  · cases hv
    obtain ⟨k1, k2, k3⟩ := vx_keep h0 e1 hS hA hf hL hF
    obtain ⟨t2, a1, b1⟩ := kk u t T'.heap (locs ++ L) e1.symm (by rw [← e2]; exact X'.warmed.alike) hp hb k1 k2 k3 T' rfl X'
    exact ⟨t2, st t2 a1, b1⟩
  · obtain ⟨k1, k2, k3⟩ := vx_keep h0 e1 hS hAX hf hL hF
    obtain ⟨t2, a1, b1⟩ := kx E ce q u t T'.heap (locs ++ L) e1.symm (by rw [← e2]; exact X'.warmed.alike) hp hb k1 k2 k3 (by rw [e1]; exact hce) hcv hcl T' rfl X'
    exact ⟨t2, st.trans a1, b1⟩
/-- caught by the row x of this method's table; the rows ahead don't take it -/
theorem vx_catch {own name : String} {E : String} {ce : Cell} {q : Addr} (hown : s.vm.findClass own = some m.cls) (pre : List ExceptionTableEntry) (x : ExceptionTableEntry) (suf : List ExceptionTableEntry) (hsplit : c.exceptionTable.toList = pre ++ x :: suf)
    (hpass : ∀ z ∈ pre, covers z pc = false ∨ (z.catchType ≠ 0 ∧ ∃ nm : String, (Cond.classLink own z.catchType nm).before args s = true ∧ va_Nc E nm s)) (hx : covers x pc = true) (h0 : x.catchType ≠ 0)
    (hlink : (Cond.classLink own x.catchType name).before args s = true) (hcast : (Cond.castable E name).before args s = true) (hcell : H[q]? = some ce) (hv : ce.vm = .none) (hcl : s.vm.findClass E = some ce.cls)
    (kk : W p l e R s m args below meth c H locs cells slots Q (F0 m x.handlerPc ls [.ref q])) : vx_W p l e R s m args below meth c H locs cells slots Q (F0 m pc ls rest) q := by
  intro T hT X
  have hpl : e.platform.magicAccessors = ({} : Platform).magicAccessors := by rw [X.admits.platform]
  obtain ⟨c3, c4, hc3, hc4, hasg⟩ := Cond.castable_spec hcast
  cases Option.some.inj (hc3.symm.trans hcl)
  obtain ⟨c5, hc5, hcl5⟩ := Cond.classLink_spec hown hlink e.platform hpl
  cases Option.some.inj (hc4.symm.trans hc5)
  obtain ⟨vm', X', st⟩ := X.thenCaughtThrough q (g := F0 m pc ls rest) rfl (Steps.refl _) (by rw [hT]; exact hcell) (by rw [hv]; rfl) (by obtain ⟨k9, h9, -⟩ := Vm.findClass_spec hcl; exact ⟨k9, h9⟩) pre x suf hsplit
    (fun z hz => by
      rcases hpass z hz with h | ⟨hz0, nm, hl1, hn1⟩
      · exact Or.inl h
      · obtain ⟨c6, hc6, hcl6⟩ := Cond.classLink_spec hown hl1 e.platform hpl
        obtain ⟨a8, b8, h1, h2, h3⟩ := hn1
        cases Option.some.inj (h1.symm.trans hcl)
        cases Option.some.inj (h2.symm.trans hc6)
        exact Or.inr ⟨hz0, _, hcl6, h3⟩) hx (Or.inr ⟨h0, c4, hcl5, hasg⟩)
  obtain ⟨t, a1, b1⟩ := kk (T.setVm vm') hT X'
  exact ⟨t, st.trans a1, b1⟩
end Rows
section Ends
variable {p : Program} {l : Launch} {e : Env} {R : Room} {s : State} {m : MethodId} {args : Array Value} {below : List Frame} {meth : Method} {c : Code} {H : Heap} {locs : List Loc} {cells slots : Nat} {Q : State → Prop}
variable {mc ms : Nat} {free : Addr → Prop} {A0 A1 : Nat → Prop} {H0 : Heap} {a : Array Value} {ls : Array Slot} {st0 rest : List Value}
variable {Qc : Array Value → State → Outcome → State → Prop} {XC : String → State → State → Prop}
/-- what a body that may throw owes at its end -/
def vx_MQ (below : List Frame) (Qc : Array Value → State → Outcome → State → Prop) (XC : String → State → State → Prop) (a : Array Value) (s : State) (mc ms : Nat) (free : Addr → Prop) : State → Prop := fun t =>
  ∃ o, t.status = .running ∧ Ended t below o ∧ vx_Q Qc XC mc ms free a s o t
theorem vx_ret {g : JFrame} {mc ms : Nat} (k : W p l e R s m args below meth c H locs cells slots (MQ below Qc args s mc ms free) g) : W p l e R s m args below meth c H locs cells slots (vx_MQ below Qc XC args s mc ms free) g := by
  intro T hT X
  obtain ⟨t, a1, o, b1, b2, b3, b4⟩ := k T hT X
  exact ⟨t, a1, o, b1, b2, Or.inl ⟨b3, b4⟩⟩
/-- not caught here: it goes on to the caller -/
theorem vx_widen {g : JFrame} {q : Addr} {k n : Nat} (h1 : cells ≤ k) (h2 : slots ≤ n) (kk : vx_W p l e R s m args below meth c H locs k n Q g q) : vx_W p l e R s m args below meth c H locs cells slots Q g q := fun T hT X => kk T hT (stand_widen X h1 h2)
theorem vx_out {pc : Nat} {E : String} {ce : Cell} {q : Addr} {mc ms : Nat} (hout : ∀ x ∈ c.exceptionTable.toList, covers x pc = false) (hlocks : meth.locks = false) (hcell : H[q]? = some ce) (hv : ce.vm = .none) (hcl : s.vm.findClass E = some ce.cls)
    (hx : ∀ t : State, t.heap = H → s.vm.Alike t.vm → XC E s t) (hf : ∀ z ∈ locs, free z.base) (hc : cells ≤ mc) (hs : slots ≤ ms) :
    vx_W p l e R s m args below meth c H locs cells slots (vx_MQ below Qc XC args s mc ms free) (F0 m pc ls rest) q := by
  intro T hT X
  obtain ⟨st1, hrun, hend, hW, hsm⟩ := X.leaveThrown q (g := F0 m pc ls rest) rfl rfl rfl hout hlocks
  have hcell9 : (T.setFrames (.throwing q :: below)).heap[q]? = some ce := by
    show T.heap[q]? = some ce
    rw [hT]; exact hcell
  exact ⟨_, st1, .threw q, hrun, hend, Or.inr ⟨q, rfl, E, ce, locs, hx _ hT hW.alike, hcell9, hv, hcl, hW, hsm.mono hc hs, hf⟩⟩
theorem vx_frame {U : State} {k n : Nat} (h : s.sameButNew ({ U with vm := s.vm } : State) locs k n) : s.heap.size ≤ U.heap.size ∧ ∀ q : Nat, q < s.heap.size → (∀ z ∈ locs, z.base ≠ q) → U.heap[q]? = s.heap[q]? := by
  obtain ⟨-, h2, -, -, -, h6⟩ := h
  refine ⟨h2, fun q hq hz => ?_⟩
  obtain ⟨c9, e1, e2, e3, e4⟩ := h6 q _ (Array.getElem?_eq_getElem hq)
  have hs : c9.slots = (s.heap[q]).slots := Array.ext_getElem? fun i => e4 i fun hm => hz _ hm rfl
  have h9 : c9 = s.heap[q] := by
    rw [hs] at e2
    exact e2
  have e5 : U.heap[q]? = some c9 := e1
  rw [e5, h9, Array.getElem?_eq_getElem hq]
/-- the words of a throw but the four that speak of the heap -/
def vx_no (w : Cond) : Bool := decide (w ≠ .isRef (.static Bundle.tN "UNASSIGNED_STACK" Bundle.steD)) && decide (w ≠ .isRef (.static Bundle.tN "SUPPRESSED_SENTINEL" Bundle.listD)) && decide (w ≠ .laysStatic Bundle.tN "UNASSIGNED_STACK" Bundle.steD) && decide (w ≠ .laysStatic Bundle.tN "SUPPRESSED_SENTINEL" Bundle.listD)
def vx_at0 (own : String) (ic : Nat) (X : String) (names : List String) : List Cond := (Bundle.ownAtoms0 own ic X names).filter vx_no
def vx_atS (own : String) (ic : Nat) (X : String) (names : List String) : List Cond := (Bundle.ownAtoms own ic X names).filter vx_no
/-- a word that the tables alone decide, or a good one -/
def vx_ot (w : Cond) : Bool := w.onTables || goodWord w
theorem vx_ot_at {args a' : Array Value} {s U : State} {w : Cond} (hW : s.WarmedH U.vm) (hvm : s.vm = U.vm) (hg : vx_ot w = true) (h : w.before args s = true) : w.before a' U = true := by
  simp only [vx_ot, Bool.or_eq_true] at hg
  rcases hg with hg | hg
  · exact va_tabs hg hvm h
  · exact word_at hW (good_of_word hg) h
/-- a list's words: the good ones out of the method's own list, the others by premises of their own -/
theorem vx_hat {args : Array Value} {s : State} {L B : List Cond} (h1 : ∀ w ∈ L.filter goodWord, w.before args s = true) (h2 : ∀ w ∈ L.filter (fun w => !goodWord w), w ∈ B) (h3 : ∀ w ∈ B, w.before args s = true) : ∀ w ∈ L, w.before args s = true := by
  intro w hw
  by_cases g : goodWord w = true
  · exact h1 w (List.mem_filter.mpr ⟨hw, g⟩)
  · refine h3 w (h2 w (List.mem_filter.mpr ⟨hw, ?_⟩))
    show (!goodWord w) = true
    cases hgw : goodWord w
    · rfl
    · exact absurd hgw g
theorem vx_c {args : Array Value} {s : State} {w : Cond} {B : List Cond} (h : w.before args s = true) (t : ∀ w ∈ B, w.before args s = true) : ∀ w' ∈ w :: B, w'.before args s = true := fun w' h' => (List.mem_cons.mp h').elim (fun e => by rw [e]; exact h) (t w')
theorem vx_n {args : Array Value} {s : State} : ∀ w ∈ ([] : List Cond), w.before args s = true := fun _ h => nomatch h
theorem vx_own {args : Array Value} {s : State} {L : List Cond} (h1 : ∀ w ∈ L.filter vx_no, w.before args s = true)
    (hU : (Cond.isRef (.static Bundle.tN "UNASSIGNED_STACK" Bundle.steD)).before args s = true) (hN : (Cond.isRef (.static Bundle.tN "SUPPRESSED_SENTINEL" Bundle.listD)).before args s = true)
    (lU : (Cond.laysStatic Bundle.tN "UNASSIGNED_STACK" Bundle.steD).before args s = true) (lN : (Cond.laysStatic Bundle.tN "SUPPRESSED_SENTINEL" Bundle.listD).before args s = true) : ∀ w ∈ L, w.before args s = true := by
  intro w hw
  by_cases e1 : w = .isRef (.static Bundle.tN "UNASSIGNED_STACK" Bundle.steD)
  · rw [e1]; exact hU
  · by_cases e2 : w = .isRef (.static Bundle.tN "SUPPRESSED_SENTINEL" Bundle.listD)
    · rw [e2]; exact hN
    · by_cases e3 : w = .laysStatic Bundle.tN "UNASSIGNED_STACK" Bundle.steD
      · rw [e3]; exact lU
      · by_cases e4 : w = .laysStatic Bundle.tN "SUPPRESSED_SENTINEL" Bundle.listD
        · rw [e4]; exact lN
        · exact h1 w (List.mem_filter.mpr ⟨hw, by unfold vx_no; rw [decide_eq_true e1, decide_eq_true e2, decide_eq_true e3, decide_eq_true e4]; rfl⟩)
/-- where a static field lies, its class's statics cell in H -/
def vx_L (C n d : String) (A : Nat → Prop) (U : State) (H : Heap) : Prop := ∃ (c : ClassId) (k : Class) (i : Nat) (f : Field) (a : Nat) (cell : Cell), U.vm.findClass C = some c ∧ U.fieldFound? C n d = some (c, k, i, f) ∧ f.isStatic = true ∧ k.statics = some a ∧ H[a]? = some cell ∧ cell.vm.isStatics = true ∧ cell.cls = c ∧ f.slot < cell.slots.size ∧ k.staticTypes[f.slot]? = some f.type ∧ ¬ A a
theorem vx_L.moved {C n d : String} {A : Nat → Prop} {u U : State} {H : Heap} (hvm : u.vm.Alike U.vm) (h : vx_L C n d A u H) : vx_L C n d A U H := by
  obtain ⟨c, k, i, f, a, cell, h1, h2, h3, h4, h5, h6, h7, h8, h9, h10⟩ := h
  obtain ⟨k', hi', he⟩ := State.fieldFound?_setVm hvm h2
  exact ⟨c, k', i, f, a, cell, by rw [hvm.findClass]; exact h1, hi', h3, by rw [he]; exact h4, h5, h6, h7, h8, by rw [he]; exact h9, h10⟩
theorem vx_L.kept {C n d : String} {A : Nat → Prop} {U : State} {H H1 : Heap} (h : vx_L C n d A U H) (hq : ∀ a : Nat, a < H.size → ¬ A a → H1[a]? = H[a]?) : vx_L C n d A U H1 := by
  obtain ⟨c, k, i, f, a, cell, h1, h2, h3, h4, h5, h6, h7, h8, h9, h10⟩ := h
  exact ⟨c, k, i, f, a, cell, h1, h2, h3, h4, by rw [hq a (Array.getElem?_eq_some_iff.mp h5).1 h10]; exact h5, h6, h7, h8, h9, h10⟩
theorem vx_L.narrow {C n d : String} {A B : Nat → Prop} {U : State} {H : Heap} (h : vx_L C n d A U H) (hAB : ∀ q, B q → A q) : vx_L C n d B U H := by
  obtain ⟨c, k, i, f, a, cell, h1, h2, h3, h4, h5, h6, h7, h8, h9, h10⟩ := h
  exact ⟨c, k, i, f, a, cell, h1, h2, h3, h4, h5, h6, h7, h8, h9, fun z => h10 (hAB _ z)⟩
theorem vx_L.word {C n d : String} {A : Nat → Prop} {s : State} {args : Array Value} (h : vx_L C n d A s s.heap) : (Cond.laysStatic C n d).before args s = true := by
  obtain ⟨c, k, i, f, a, cell, h1, h2, h3, h4, h5, h6, h7, h8, h9, -⟩ := h
  show (Cond.laysStatic C n d).holds args s none s [] = true
  exact Cond.laysStatic_of h1 h2 h3 h4 h5 h6 h7 h8 h9
/-- .. and what it holds: null or some reference -/
def vx_Zq (C n d : String) (A : Nat → Prop) (U : State) (H : Heap) : Prop := va_Zq C n d A U H ∧ vx_L C n d A U H
theorem vx_Zq.moved {C n d : String} {A : Nat → Prop} {u U : State} {H : Heap} (hvm : u.vm.Alike U.vm) (h : vx_Zq C n d A u H) : vx_Zq C n d A U H := ⟨va_Zq.moved hvm h.1, vx_L.moved hvm h.2⟩
theorem vx_Zq.kept {C n d : String} {A : Nat → Prop} {U : State} {H H1 : Heap} (h : vx_Zq C n d A U H) (hq : ∀ a : Nat, a < H.size → ¬ A a → H1[a]? = H[a]?) : vx_Zq C n d A U H1 := ⟨va_Zq.kept h.1 hq, vx_L.kept h.2 hq⟩
theorem vx_Zq.narrow {C n d : String} {A B : Nat → Prop} {U : State} {H : Heap} (h : vx_Zq C n d A U H) (hAB : ∀ q, B q → A q) : vx_Zq C n d B U H := ⟨va_Zq.narrow h.1 hAB, vx_L.narrow h.2 hAB⟩
theorem vx_Zqof {args : Array Value} {s : State} {C n d : String} {A : Nat → Prop} (hl : (Cond.laysStatic C n d).before args s = true) (hini : (Cond.initialized C).before args s = true) (h : (Cond.isRef (.static C n d)).before args s = true) (hA : ∀ a : Nat, a < s.heap.size → ¬ A a) : vx_Zq C n d A s s.heap := by
  refine ⟨va_Zqof hl hini h hA, ?_⟩
  obtain ⟨c, k, i, f, a, cell, h1, h2, h3, h4, h5, h6, h7, h8, h9⟩ := Cond.laysStatic_spec hl
  exact ⟨c, k, i, f, a, cell, h1, h2, h3, h4, h5, h6, h7, h8, h9, hA a (Array.getElem?_eq_some_iff.mp h5).1⟩
theorem vx_isRef {C n d : String} {v : Value} {A : Nat → Prop} {s : State} {args : Array Value} (h : va_Z C n d v A s s.heap) (hv : v.isRef = true) : (Cond.isRef (.static C n d)).before args s = true := by
  obtain ⟨cf, kf, fi, f, a, cell, h1, h2, h3, h4, h5, h6, h7, -⟩ := h
  have he : (Term.static C n d).eval args s none [] s = some v := by
    simp [Term.eval, State.fieldNamed?, h1, h2, h4, h5, h6, h7]
  simp only [Cond.before, Cond.holds, Cond.value, he]
  cases v <;> simp_all [Value.isRef]
theorem vx_isRefq {C n d : String} {A : Nat → Prop} {s : State} {args : Array Value} (h : va_Zq C n d A s s.heap) : (Cond.isRef (.static C n d)).before args s = true := by
  rcases h with h | ⟨t, h⟩
  · exact vx_isRef h rfl
  · exact vx_isRef h rfl
/-- the same frame, seen from here: as if the method were called anew in this heap -/
theorem vx_rebase {T : State} (X : Stand p l e R s m args below meth c T locs cells slots) {R' : Room} (hf : R'.frames ≤ R.frames) (hl : R'.locals ≤ R.locals) (hc : cells + R'.cells ≤ R.cells) (hs : slots + R'.slots ≤ R.slots) :
    Stand p l e R' ((T.setVm s.vm).setFrames (.invoking m args :: below)) m args below meth c T [] 0 0 := by
  have htop : (T.setVm s.vm).topJava?.isSome := X.here.top
  have hF : ((T.setVm s.vm).setFrames (.invoking m args :: below)).frames = .invoking m args :: below := State.frames_setFrames _ (State.cur_lt_of_top htop)
  obtain ⟨g₀, hg0⟩ := Option.isSome_iff_exists.mp htop
  obtain ⟨r, hr⟩ := State.topJava?_eq_some.mp hg0
  have hl9 : e.platform.stackLimits (T.setVm s.vm).me = e.platform.stackLimits s.me := X.limits
  have hb9 : (T.setVm s.vm).me.stackBytes = s.me.stackBytes := X.bytes
  refine ⟨X.admits, X.cas, X.clock, hF, ?_, X.hears, X.method, X.code, X.here, X.tail, X.warmed, ?_, ?_, ?_⟩
  · have h := X.room
    have hU : ((T.setVm s.vm).setFrames (.invoking m args :: below)).localsInUse = s.localsInUse := by
      rw [State.localsInUse_invoking hF (meth := meth) (c := c) X.method X.code, State.localsInUse_invoking X.frames X.method X.code]
    simp only [State.hasRoom, Bool.and_eq_true, decide_eq_true_eq] at h ⊢
    obtain ⟨⟨⟨⟨h1, h2, h3, h4, h5, h6⟩, h7⟩, h8⟩, h9⟩ := h
    rw [X.frames, List.length_cons] at h2 h3
    have q1 := X.heapSize
    have q2 := X.used
    simp only [hF, hU, List.length_cons, State.stackLimits_setFrames, State.stackBytes_setFrames, hl9, hb9]
    refine ⟨⟨⟨⟨by omega, by omega, by omega, by omega, by omega, h6⟩, ?_⟩, ?_⟩, X.book⟩
    · show T.heap.size + R'.cells ≤ e.platform.maxCells
      omega
    · show T.slotsUsed + R'.slots ≤ e.platform.maxSlots
      omega
  · rw [State.stackLimits_setFrames]; rfl
  · rw [State.stackBytes_setFrames]; rfl
  · refine ⟨?_, Nat.le_refl _, Nat.le_refl _, ?_, ?_, fun a c9 h9 => ⟨c9, h9, rfl, rfl, fun _ _ => rfl⟩⟩
    · obtain ⟨t, ht, -⟩ := State.frames_cons hr
      show T.setVm s.vm = { ((T.setVm s.vm).setFrames (.invoking m args :: below)).setFrames (T.setVm s.vm).frames with heap := T.heap, slotsUsed := T.slotsUsed }
      rw [State.setFrames_setFrames, State.setFrames_self ht]
      rfl
    · show T.slotsUsed = T.slotsUsed + ((T.heap.toList.drop T.heap.size).map (·.slots.size)).sum
      rw [List.drop_eq_nil_of_le (Nat.le_of_eq Array.length_toList)]
      rfl
    · show ((T.heap.toList.drop T.heap.size).map (·.slots.size)).sum ≤ 0
      rw [List.drop_eq_nil_of_le (Nat.le_of_eq Array.length_toList)]
      exact Nat.le_refl _
/-- 'throw new E()': new; dup; invokespecial; athrow -/
theorem vx_throw0 {cc : ByteArray} {pc : Nat} (hexec : p.tables.exec = Jvm.exec) (hb : c.code = cc) (hl : l.stackTraces = false) {own cls : String} {names : List String} {ik ic mc ms : Nat} {A : Nat → Prop}
    (hown : s.vm.findClass own = some m.cls) (hcls : Bundle.fit cls = true) (hnames : ∀ n ∈ names, Bundle.fit n = true)
    (hk : (Cond.classLink own ik cls).before args s = true) (hini : (Cond.initialized cls).before args s = true) (hat : ∀ w ∈ vx_at0 own ic cls names, w.before args s = true)
    (hgood : ∀ w ∈ Cond.classLink own ik cls :: Cond.initialized cls :: vx_at0 own ic cls names, vx_ot w = true)
    (hU : vx_Zq Bundle.tN "UNASSIGNED_STACK" Bundle.steD A s s.heap) (hN : vx_Zq Bundle.tN "SUPPRESSED_SENTINEL" Bundle.listD A s s.heap) (hS : va_S A s.heap H locs) (hsize : ls.size = c.maxLocals)
    (d0 : decode cc pc = .ok (.new ik, 3)) (d3 : decode cc (pc + 3) = .ok (.dup, 1)) (d4 : decode cc (pc + 4) = .ok (.invokespecial ic, 3)) (d7 : decode cc (pc + 7) = .ok (.athrow, 1))
    (hout : ∀ x ∈ c.exceptionTable.toList, covers x (pc + 7) = false)
    (hRframes : names.length + 3 < R.frames) (hRlocals : (rest.map fun v => v.category).sum + (13 * (names.length + 1) + 42) ≤ R.locals) (hRcells : cells + 1 ≤ R.cells) (hRslots : slots + 6 ≤ R.slots) (hlocks : meth.locks = false)
    (hx : ∀ t : State, s.vm.Alike t.vm → H.size ≤ t.heap.size → (∀ q : Nat, q < H.size → t.heap[q]? = H[q]?) → XC cls s t)
    (hf : ∀ z ∈ locs, free z.base) (hc : cells + 1 ≤ mc) (hs : slots + 6 ≤ ms) :
    W p l e R s m args below meth c H locs cells slots (vx_MQ below Qc XC args s mc ms free) (F0 m pc ls rest) := by
  intro T hT X
  have htr : e.platform.stackTraces = false := (show e.platform.stackTraces = l.stackTraces by rw [X.admits.platform]).trans hl
  have Y := vx_rebase X (R' := { frames := R.frames, locals := R.locals, cells := 1, slots := 6 }) (Nat.le_refl _) (Nat.le_refl _) hRcells hRslots
  obtain ⟨s', hA⟩ : ∃ z, z = (T.setVm s.vm).setFrames (.invoking m args :: below) := ⟨_, rfl⟩
  rw [← hA] at Y
  have hvm : s'.vm = s.vm := by rw [hA]; rfl
  have hhp : s'.heap = H := by rw [hA]; exact hT
  have hW0 : s.WarmedH s'.vm := by rw [hvm]; exact State.WarmedH.refl s
  have hat' : ∀ w ∈ vx_at0 own ic cls names, w.before args s' = true := fun w hw => vx_ot_at hW0 hvm.symm (hgood w (List.mem_cons_of_mem _ (List.mem_cons_of_mem _ hw))) (hat w hw)
  have hk' : (Cond.classLink own ik cls).before args s' = true := vx_ot_at hW0 hvm.symm (hgood _ List.mem_cons_self) hk
  have hini' : (Cond.initialized cls).before args s' = true := vx_ot_at hW0 hvm.symm (hgood _ (List.mem_cons_of_mem _ List.mem_cons_self)) hini
  have hU' : vx_Zq Bundle.tN "UNASSIGNED_STACK" Bundle.steD A s' s'.heap := by rw [hhp]; exact vx_Zq.moved hW0.alike (hU.kept hS.2.1)
  have hN' : vx_Zq Bundle.tN "SUPPRESSED_SENTINEL" Bundle.listD A s' s'.heap := by rw [hhp]; exact vx_Zq.moved hW0.alike (hN.kept hS.2.1)
  have h : ∀ w ∈ Bundle.ownAtoms0 own ic cls names, w.before args s' = true := vx_own hat' (vx_isRefq hU'.1) (vx_isRefq hN'.1) hU'.2.word hN'.2.word
  have hown' : s'.vm.findClass own = some m.cls := by rw [hvm]; exact hown
  have hins : (Cond.instantiable cls 6).before args s' = true := h _ (by simp [Bundle.ownAtoms0])
  obtain ⟨vm₁, cX, kX, hfX, hkX, -, -, X₁, st1⟩ := Y.newCold hexec (own := own) (C := cls) (index := ik) (n := 6) hown' hk' hins hini'
    (g := F0 m pc ls rest) rfl (by rw [hb]; exact d0) (Nat.le_refl _) (Nat.le_refl _)
  generalize hT1 : (T.setVm vm₁).pushCell { cls := cX, slots := kX.instanceTypes.map defaultValue, vm := .none } = T1 at X₁ st1
  have hcat : (Value.ref T.heap.size).category = 1 := rfl
  have hcellA : T1.heap[T.heap.size]? = some (freshCell cX kX) := by rw [← hT1]; exact State.heap_pushCell_size _ _
  have d3' : decode c.code (pc + 3) = .ok (.dup, 1) := by rw [hb]; exact d3
  obtain ⟨U, hsteps, hrun, hend, hW, hsame, ce, hce, hO⟩ := X₁.ctorThrow0 hexec htr (own := own) (cls := cls) (names := names) (ic := ic) hown' hcls hnames h (fun x hx => nomatch hx) hfX hkX hcellA (by rw [hhp, hT]; exact Nat.le_refl _)
    (g := { method := m, pc := pc + 4, locals := ls, stack := .ref T.heap.size :: .ref T.heap.size :: rest, locked := none }) rfl hsize rfl rfl (rest := rest) rfl
    (by rw [hb]; exact d4) (by rw [hb]; exact d7) hout hRframes (by simp only [List.map_cons, List.sum_cons, hcat]; omega) hlocks
  obtain ⟨f1, f2⟩ := vx_frame hsame
  rw [hhp] at f1 f2
  have hWs : s.WarmedH U.vm := State.WarmedH.trans hW0 hW
  have hcl : s.vm.findClass cls = some ce.cls := by
    have h9 := hO.cls
    rw [hvm] at h9
    exact h9
  have hall : s.sameButNew ({ U with vm := s.vm } : State) locs mc ms := by
    subst hA
    obtain ⟨e1, e2⟩ := hsame
    rw [State.setFrames_setFrames] at e1
    have h2 : (T.setVm s.vm).sameButNew ({ U with vm := s.vm } : State) [] (0 + 1) (0 + 6) := ⟨e1, e2⟩
    have h3 := X.same.trans h2
    rw [List.append_nil] at h3
    exact h3.mono hc hs
  refine ⟨U, ?_, .threw T.heap.size, hrun, hend, Or.inr ⟨T.heap.size, rfl, cls, ce, locs, hx U hWs.alike f1 (fun q hq => f2 q hq (fun z hz => nomatch hz)), hce, hO.vm, hcl, hWs, hall, hf⟩⟩
  refine st1 _ ?_
  show Steps p.tables e below (T1.setTop { method := m, pc := pc + 3, locals := ls, stack := .ref T.heap.size :: rest, locked := none }) _
  jvm_step X₁.here [X₁.here.top, hexec, d3', Value.category]
  exact hsteps
/-- 'throw new E("text")': new; dup; ldc; invokespecial; athrow -/
theorem vx_throwS {cc : ByteArray} {pc : Nat} (hexec : p.tables.exec = Jvm.exec) (hb : c.code = cc) (hl : l.stackTraces = false) {own cls text : String} {names : List String} {ik is ic mc ms sa : Nat} {A : Nat → Prop}
    (hown : s.vm.findClass own = some m.cls) (hcls : Bundle.fit cls = true) (hnames : ∀ n ∈ names, Bundle.fit n = true)
    (hk : (Cond.classLink own ik cls).before args s = true) (hini : (Cond.initialized cls).before args s = true) (hstr : vk_R own is text sa s) (hat : ∀ w ∈ vx_atS own ic cls names, w.before args s = true)
    (hgood : ∀ w ∈ Cond.classLink own ik cls :: Cond.initialized cls :: vx_atS own ic cls names, vx_ot w = true)
    (hU : vx_Zq Bundle.tN "UNASSIGNED_STACK" Bundle.steD A s s.heap) (hN : vx_Zq Bundle.tN "SUPPRESSED_SENTINEL" Bundle.listD A s s.heap) (hS : va_S A s.heap H locs) (hsize : ls.size = c.maxLocals)
    (d0 : decode cc pc = .ok (.new ik, 3)) (d3 : decode cc (pc + 3) = .ok (.dup, 1)) (d4 : decode cc (pc + 4) = .ok (.ldc is, 2)) (d6 : decode cc (pc + 6) = .ok (.invokespecial ic, 3)) (d9 : decode cc (pc + 9) = .ok (.athrow, 1))
    (hout : ∀ x ∈ c.exceptionTable.toList, covers x (pc + 9) = false)
    (hRframes : names.length + 3 < R.frames) (hRlocals : (rest.map fun v => v.category).sum + (13 * (names.length + 1) + 43) ≤ R.locals) (hRcells : cells + 1 ≤ R.cells) (hRslots : slots + 6 ≤ R.slots) (hlocks : meth.locks = false)
    (hx : ∀ t : State, s.vm.Alike t.vm → H.size ≤ t.heap.size → (∀ q : Nat, q < H.size → t.heap[q]? = H[q]?) → XC cls s t)
    (hf : ∀ z ∈ locs, free z.base) (hc : cells + 1 ≤ mc) (hs : slots + 6 ≤ ms) :
    W p l e R s m args below meth c H locs cells slots (vx_MQ below Qc XC args s mc ms free) (F0 m pc ls rest) := by
  intro T hT X
  have htr : e.platform.stackTraces = false := (show e.platform.stackTraces = l.stackTraces by rw [X.admits.platform]).trans hl
  have Y := vx_rebase X (R' := { frames := R.frames, locals := R.locals, cells := 1, slots := 6 }) (Nat.le_refl _) (Nat.le_refl _) hRcells hRslots
  obtain ⟨s', hA⟩ : ∃ z, z = (T.setVm s.vm).setFrames (.invoking m args :: below) := ⟨_, rfl⟩
  rw [← hA] at Y
  have hvm : s'.vm = s.vm := by rw [hA]; rfl
  have hhp : s'.heap = H := by rw [hA]; exact hT
  have hW0 : s.WarmedH s'.vm := by rw [hvm]; exact State.WarmedH.refl s
  have hat' : ∀ w ∈ vx_atS own ic cls names, w.before args s' = true := fun w hw => vx_ot_at hW0 hvm.symm (hgood w (List.mem_cons_of_mem _ (List.mem_cons_of_mem _ hw))) (hat w hw)
  have hk' : (Cond.classLink own ik cls).before args s' = true := vx_ot_at hW0 hvm.symm (hgood _ List.mem_cons_self) hk
  have hini' : (Cond.initialized cls).before args s' = true := vx_ot_at hW0 hvm.symm (hgood _ (List.mem_cons_of_mem _ List.mem_cons_self)) hini
  have hU' : vx_Zq Bundle.tN "UNASSIGNED_STACK" Bundle.steD A s' s'.heap := by rw [hhp]; exact vx_Zq.moved hW0.alike (hU.kept hS.2.1)
  have hN' : vx_Zq Bundle.tN "SUPPRESSED_SENTINEL" Bundle.listD A s' s'.heap := by rw [hhp]; exact vx_Zq.moved hW0.alike (hN.kept hS.2.1)
  have h : ∀ w ∈ Bundle.ownAtoms own ic cls names, w.before args s' = true := vx_own hat' (vx_isRefq hU'.1) (vx_isRefq hN'.1) hU'.2.word hN'.2.word
  have hown' : s'.vm.findClass own = some m.cls := by rw [hvm]; exact hown
  have hins : (Cond.instantiable cls 6).before args s' = true := h _ (by simp [Bundle.ownAtoms])
  obtain ⟨vm₁, cX, kX, hfX, hkX, -, -, X₁, st1⟩ := Y.newCold hexec (own := own) (C := cls) (index := ik) (n := 6) hown' hk' hins hini'
    (g := F0 m pc ls rest) rfl (by rw [hb]; exact d0) (Nat.le_refl _) (Nat.le_refl _)
  generalize hT1 : (T.setVm vm₁).pushCell { cls := cX, slots := kX.instanceTypes.map defaultValue, vm := .none } = T1 at X₁ st1
  have hcat : (Value.ref T.heap.size).category = 1 := rfl
  have hcellA : T1.heap[T.heap.size]? = some (freshCell cX kX) := by rw [← hT1]; exact State.heap_pushCell_size _ _
  have d3' : decode c.code (pc + 3) = .ok (.dup, 1) := by rw [hb]; exact d3
  have d4' : decode c.code (pc + 4) = .ok (.ldc is, 2) := by rw [hb]; exact d4
  have hstr' : vk_R own is text sa s' := vk_R.warm hW0 hstr
  obtain ⟨U, hsteps, hrun, hend, hW, hsame, ce, hce, hO⟩ := X₁.ctorThrowS hexec htr (own := own) (cls := cls) (names := names) (ic := ic) hown' hcls hnames h (fun x hx => nomatch hx) hfX hkX hcellA (by rw [hhp, hT]; exact Nat.le_refl _) (msg := .ref sa) rfl
    (g := { method := m, pc := pc + 6, locals := ls, stack := .ref sa :: .ref T.heap.size :: .ref T.heap.size :: rest, locked := none }) rfl hsize rfl rfl (rest := rest) rfl
    (by rw [hb]; exact d6) (by rw [hb]; exact d9) hout hRframes (by simp only [List.map_cons, List.sum_cons, hcat]; omega) hlocks
  obtain ⟨f1, f2⟩ := vx_frame hsame
  rw [hhp] at f1 f2
  have hWs : s.WarmedH U.vm := State.WarmedH.trans hW0 hW
  have hcl : s.vm.findClass cls = some ce.cls := by
    have h9 := hO.cls
    rw [hvm] at h9
    exact h9
  have hall : s.sameButNew ({ U with vm := s.vm } : State) locs mc ms := by
    subst hA
    obtain ⟨e1, e2⟩ := hsame
    rw [State.setFrames_setFrames] at e1
    have h2 : (T.setVm s.vm).sameButNew ({ U with vm := s.vm } : State) [] (0 + 1) (0 + 6) := ⟨e1, e2⟩
    have h3 := X.same.trans h2
    rw [List.append_nil] at h3
    exact h3.mono hc hs
  refine ⟨U, ?_, .threw T.heap.size, hrun, hend, Or.inr ⟨T.heap.size, rfl, cls, ce, locs, hx U hWs.alike f1 (fun q hq => f2 q hq (fun z hz => nomatch hz)), hce, hO.vm, hcl, hWs, hall, hf⟩⟩
  refine st1 _ ?_
  show Steps p.tables e below (T1.setTop { method := m, pc := pc + 3, locals := ls, stack := .ref T.heap.size :: rest, locked := none }) _
  jvm_step X₁.here [X₁.here.top, hexec, d3', Value.category]
  exact X₁.ldcString hexec (own := own) (text := text) (index := is) (a := sa) hown' hstr'.1 hstr'.2
    (g := { method := m, pc := pc + 4, locals := ls, stack := .ref T.heap.size :: .ref T.heap.size :: rest, locked := none }) rfl d4' _ hsteps
/-- 'throw new E("text")', the text by a wide index -/
theorem vx_throwSW {cc : ByteArray} {pc : Nat} (hexec : p.tables.exec = Jvm.exec) (hb : c.code = cc) (hl : l.stackTraces = false) {own cls text : String} {names : List String} {ik is ic mc ms sa : Nat} {A : Nat → Prop}
    (hown : s.vm.findClass own = some m.cls) (hcls : Bundle.fit cls = true) (hnames : ∀ n ∈ names, Bundle.fit n = true)
    (hk : (Cond.classLink own ik cls).before args s = true) (hini : (Cond.initialized cls).before args s = true) (hstr : vk_R own is text sa s) (hat : ∀ w ∈ vx_atS own ic cls names, w.before args s = true)
    (hgood : ∀ w ∈ Cond.classLink own ik cls :: Cond.initialized cls :: vx_atS own ic cls names, vx_ot w = true)
    (hU : vx_Zq Bundle.tN "UNASSIGNED_STACK" Bundle.steD A s s.heap) (hN : vx_Zq Bundle.tN "SUPPRESSED_SENTINEL" Bundle.listD A s s.heap) (hS : va_S A s.heap H locs) (hsize : ls.size = c.maxLocals)
    (d0 : decode cc pc = .ok (.new ik, 3)) (d3 : decode cc (pc + 3) = .ok (.dup, 1)) (d4 : decode cc (pc + 4) = .ok (.ldc_w is, 3)) (d7 : decode cc (pc + 7) = .ok (.invokespecial ic, 3)) (d10 : decode cc (pc + 10) = .ok (.athrow, 1))
    (hout : ∀ x ∈ c.exceptionTable.toList, covers x (pc + 10) = false)
    (hRframes : names.length + 3 < R.frames) (hRlocals : (rest.map fun v => v.category).sum + (13 * (names.length + 1) + 43) ≤ R.locals) (hRcells : cells + 1 ≤ R.cells) (hRslots : slots + 6 ≤ R.slots) (hlocks : meth.locks = false)
    (hx : ∀ t : State, s.vm.Alike t.vm → H.size ≤ t.heap.size → (∀ q : Nat, q < H.size → t.heap[q]? = H[q]?) → XC cls s t)
    (hf : ∀ z ∈ locs, free z.base) (hc : cells + 1 ≤ mc) (hs : slots + 6 ≤ ms) :
    W p l e R s m args below meth c H locs cells slots (vx_MQ below Qc XC args s mc ms free) (F0 m pc ls rest) := by
  intro T hT X
  have htr : e.platform.stackTraces = false := (show e.platform.stackTraces = l.stackTraces by rw [X.admits.platform]).trans hl
  have Y := vx_rebase X (R' := { frames := R.frames, locals := R.locals, cells := 1, slots := 6 }) (Nat.le_refl _) (Nat.le_refl _) hRcells hRslots
  obtain ⟨s', hA⟩ : ∃ z, z = (T.setVm s.vm).setFrames (.invoking m args :: below) := ⟨_, rfl⟩
  rw [← hA] at Y
  have hvm : s'.vm = s.vm := by rw [hA]; rfl
  have hhp : s'.heap = H := by rw [hA]; exact hT
  have hW0 : s.WarmedH s'.vm := by rw [hvm]; exact State.WarmedH.refl s
  have hat' : ∀ w ∈ vx_atS own ic cls names, w.before args s' = true := fun w hw => vx_ot_at hW0 hvm.symm (hgood w (List.mem_cons_of_mem _ (List.mem_cons_of_mem _ hw))) (hat w hw)
  have hk' : (Cond.classLink own ik cls).before args s' = true := vx_ot_at hW0 hvm.symm (hgood _ List.mem_cons_self) hk
  have hini' : (Cond.initialized cls).before args s' = true := vx_ot_at hW0 hvm.symm (hgood _ (List.mem_cons_of_mem _ List.mem_cons_self)) hini
  have hU' : vx_Zq Bundle.tN "UNASSIGNED_STACK" Bundle.steD A s' s'.heap := by rw [hhp]; exact vx_Zq.moved hW0.alike (hU.kept hS.2.1)
  have hN' : vx_Zq Bundle.tN "SUPPRESSED_SENTINEL" Bundle.listD A s' s'.heap := by rw [hhp]; exact vx_Zq.moved hW0.alike (hN.kept hS.2.1)
  have h : ∀ w ∈ Bundle.ownAtoms own ic cls names, w.before args s' = true := vx_own hat' (vx_isRefq hU'.1) (vx_isRefq hN'.1) hU'.2.word hN'.2.word
  have hown' : s'.vm.findClass own = some m.cls := by rw [hvm]; exact hown
  have hins : (Cond.instantiable cls 6).before args s' = true := h _ (by simp [Bundle.ownAtoms])
  obtain ⟨vm₁, cX, kX, hfX, hkX, -, -, X₁, st1⟩ := Y.newCold hexec (own := own) (C := cls) (index := ik) (n := 6) hown' hk' hins hini'
    (g := F0 m pc ls rest) rfl (by rw [hb]; exact d0) (Nat.le_refl _) (Nat.le_refl _)
  generalize hT1 : (T.setVm vm₁).pushCell { cls := cX, slots := kX.instanceTypes.map defaultValue, vm := .none } = T1 at X₁ st1
  have hcat : (Value.ref T.heap.size).category = 1 := rfl
  have hcellA : T1.heap[T.heap.size]? = some (freshCell cX kX) := by rw [← hT1]; exact State.heap_pushCell_size _ _
  have d3' : decode c.code (pc + 3) = .ok (.dup, 1) := by rw [hb]; exact d3
  have d4' : decode c.code (pc + 4) = .ok (.ldc_w is, 3) := by rw [hb]; exact d4
  have hstr' : vk_R own is text sa s' := vk_R.warm hW0 hstr
  obtain ⟨U, hsteps, hrun, hend, hW, hsame, ce, hce, hO⟩ := X₁.ctorThrowS hexec htr (own := own) (cls := cls) (names := names) (ic := ic) hown' hcls hnames h (fun x hx => nomatch hx) hfX hkX hcellA (by rw [hhp, hT]; exact Nat.le_refl _) (msg := .ref sa) rfl
    (g := { method := m, pc := pc + 7, locals := ls, stack := .ref sa :: .ref T.heap.size :: .ref T.heap.size :: rest, locked := none }) rfl hsize rfl rfl (rest := rest) rfl
    (by rw [hb]; exact d7) (by rw [hb]; exact d10) hout hRframes (by simp only [List.map_cons, List.sum_cons, hcat]; omega) hlocks
  obtain ⟨f1, f2⟩ := vx_frame hsame
  rw [hhp] at f1 f2
  have hWs : s.WarmedH U.vm := State.WarmedH.trans hW0 hW
  have hcl : s.vm.findClass cls = some ce.cls := by
    have h9 := hO.cls
    rw [hvm] at h9
    exact h9
  have hall : s.sameButNew ({ U with vm := s.vm } : State) locs mc ms := by
    subst hA
    obtain ⟨e1, e2⟩ := hsame
    rw [State.setFrames_setFrames] at e1
    have h2 : (T.setVm s.vm).sameButNew ({ U with vm := s.vm } : State) [] (0 + 1) (0 + 6) := ⟨e1, e2⟩
    have h3 := X.same.trans h2
    rw [List.append_nil] at h3
    exact h3.mono hc hs
  refine ⟨U, ?_, .threw T.heap.size, hrun, hend, Or.inr ⟨T.heap.size, rfl, cls, ce, locs, hx U hWs.alike f1 (fun q hq => f2 q hq (fun z hz => nomatch hz)), hce, hO.vm, hcl, hWs, hall, hf⟩⟩
  refine st1 _ ?_
  show Steps p.tables e below (T1.setTop { method := m, pc := pc + 3, locals := ls, stack := .ref T.heap.size :: rest, locked := none }) _
  jvm_step X₁.here [X₁.here.top, hexec, d3', Value.category]
  exact X₁.ldcStringW hexec (own := own) (text := text) (index := is) (a := sa) hown' hstr'.1 hstr'.2
    (g := { method := m, pc := pc + 4, locals := ls, stack := .ref T.heap.size :: .ref T.heap.size :: rest, locked := none }) rfl d4' _ hsteps
end Ends
section Bodies
variable {l : Launch}
theorem vx_ofW {y : MethodName} {ws ws' : List Cond} {rm : Room} {Pc : Array Value → State → Prop} {Qc : Array Value → State → Outcome → State → Prop} {XC : String → State → State → Prop} {mc ms : Nat} {free : Addr → Prop} {cc : ByteArray} {maxL : Nat} {ret : Option FieldType}
    (hy : plainName y.cls = true) (hw : ws = Cond.code y cc maxL ret :: ws')
    (body : ∀ p e s m args below meth c s₁, BodyLoose p l y (headSpec ws rm) cc maxL ret e s m args below meth c s₁ → c.maxLocals = maxL → (∀ x ∈ c.exceptionTable.toList, False) → Pc args s →
      W p l e (headSpec ws rm).room s m args below meth c s.heap [] 0 0 (vx_MQ below Qc XC args s mc ms free) (entryFrame m args maxL)) : vx_Met l y ws rm Pc Qc XC mc ms free := by
  refine MetFree.of_bodyS (code := cc) (maxLocals := maxL) (ret := ret) hy ?_ ?_
  · intro args s m h hn
    obtain ⟨meth, c, h1, h2, h3, h4, h5, h6, -, -⟩ := Cond.code_spec hn (atoms_spec (ws := ws) h _ (by rw [hw]; exact List.mem_cons_self))
    exact ⟨meth, c, h1, h2, h3, h4, h5, h6⟩
  · intro p e s m args below meth c s₁ B hml hP _
    have hh0 : s₁.heap = s.heap := by rw [B.state]; rfl
    have ht : ∀ x ∈ c.exceptionTable.toList, False := by
      obtain ⟨meth9, c9, h1, h2, -, -, -, -, h7, -⟩ := Cond.code_spec B.named (atoms_spec (ws := ws) B.pre _ (by rw [hw]; exact List.mem_cons_self))
      cases Option.some.inj (h1.symm.trans B.method)
      cases Option.some.inj (h2.symm.trans (Stand.of_body B).code)
      intro x hx
      rw [Array.isEmpty_iff.mp h7] at hx
      cases hx
    obtain ⟨t, a1, o, b1, b2, b3⟩ := body p e s m args below meth c s₁ B hml ht hP s₁ hh0 (Stand.of_body B)
    exact ⟨t, o, a1, b1, b2, b3⟩
/-- the table of a body with handlers -/
theorem vx_table {p : Program} {x y : MethodName} {S : Spec} {cc bytes : ByteArray} {maxL maxL' : Nat} {ret ret' : Option FieldType} {e : Env} {s s₁ : State} {m : MethodId} {args : Array Value} {below : List Frame} {meth : Method} {c : Code} {hh : List (Nat × Nat × Nat × Nat)}
    (B : BodyLoose p l y S cc maxL ret e s m args below meth c s₁) (h : (Cond.codeWith y bytes maxL' ret' hh).before args s = true) : c.exceptionTable.toList = tableOf hh := by
  obtain ⟨m9, meth9, c9, hn9, h1, h2, -, -, h6, -⟩ := Cond.codeWith_spec h
  cases Option.some.inj (hn9.symm.trans B.named)
  cases Option.some.inj (h1.symm.trans B.method)
  cases Option.some.inj (h2.symm.trans (Stand.of_body B).code)
  rw [← h6, table_eq]
end Bodies
end VXA
/-! ===== END ===== -/
/-! ===== BEGIN a static call of a method with an exception table ===== -/
section VXS
variable {p : Program} {l : Launch} {e : Env} {R : Room} {s : State} {m : MethodId} {args : Array Value} {below : List Frame} {meth : Method} {c : Code} {T : State} {H : Heap} {locs : List Loc} {cells slots : Nat}
abbrev vx_CSW (R : Room) (s : State) (args : Array Value) (own : String) (index : Nat) (y : MethodName) (bytes : ByteArray) (maxL : Nat) (ret : Option FieldType) (hh : List (Nat × Nat × Nat × Nat)) (ws : List Cond) (rm : Room) (mc ms n : Nat) : Prop :=
  (rm.cells = mc ∧ rm.slots = ms ∧ rm.frames + 1 ≤ R.frames ∧ 8 + (maxL + 11) + rm.locals ≤ R.locals ∧ (∀ w ∈ ws, ∀ (a' : Array Value) (U : State), s.WarmedH U.vm → w.before a' U = true) ∧ Cond.codeWith y bytes maxL ret hh ∈ ws) ∧
  (Cond.codeWith y bytes maxL ret hh).before args s = true ∧ (Cond.initialized y.cls).before args s = true ∧ (y.cls ≠ "java/lang/invoke/MethodHandle" ∧ y.cls ≠ "java/lang/invoke/VarHandle") ∧
  (∀ sig, parseMethodDescriptor y.desc = some sig → n = sig.parameters.length) ∧ (Cond.methodLink own index y).before args s = true ∧ (Cond.static y).before args s = true
theorem vx_cwSW {own : String} {index maxL mc ms : Nat} {y : MethodName} {bytes : ByteArray} {ret : Option FieldType} {hh : List (Nat × Nat × Nat × Nat)} {Ts ws ws' : List Cond} {rm : Room} (n : Nat) (ht : ∀ w ∈ Ts, w.before args s = true) (hT : GoodIn Ts (va_wsS own index y ws)) (hw : ws = Cond.codeWith y bytes maxL ret hh :: ws') (hrc : rm.cells = mc) (hrs : rm.slots = ms)
    (hd : y.cls ≠ "java/lang/invoke/MethodHandle" ∧ y.cls ≠ "java/lang/invoke/VarHandle" ∧ (parseMethodDescriptor y.desc).map (fun d => d.parameters.length) = some n) (hR : rm.frames + 1 ≤ R.frames ∧ 8 + (maxL + 11) + rm.locals ≤ R.locals) :
    vx_CSW R s args own index y bytes maxL ret hh ws rm mc ms n := by
  have ok : ∀ w ∈ va_wsS own index y ws, w.before args s = true := fun w h => ht w (hT w h).1
  have hG : GoodIn Ts ws := fun w h => hT w (by unfold va_wsS; exact List.mem_append_right _ h)
  have hc : Cond.codeWith y bytes maxL ret hh ∈ ws := by rw [hw]; exact List.mem_cons_self
  refine ⟨⟨hrc, hrs, hR.1, hR.2, pay_in ht hG, hc⟩, ht _ (hG _ hc).1, ok _ (by simp [va_wsS]), ⟨hd.1, hd.2.1⟩, fun sig h => ?_, ok _ (by simp [va_wsS]), ok _ (by simp [va_wsS])⟩
  have h2 := hd.2.2
  rw [h] at h2
  exact (Option.some.inj h2).symm
theorem vx_callSW (X : Stand p l e R s m args below meth c T locs cells slots) (hexec : p.tables.exec = Jvm.exec) {own : String} {index : Nat} {y : MethodName} {bytes : ByteArray} {maxL : Nat} {ret : Option FieldType} {hh : List (Nat × Nat × Nat × Nat)}
    (hown : s.vm.findClass own = some m.cls) (hlink : (Cond.methodLink own index y).before args s = true) (hstat : (Cond.static y).before args s = true) (hinit : (Cond.initialized y.cls).before args s = true)
    (hcode : (Cond.codeWith y bytes maxL ret hh).before args s = true) (hy : y.cls ≠ "java/lang/invoke/MethodHandle" ∧ y.cls ≠ "java/lang/invoke/VarHandle")
    {W9 : Nat} {Pre : Pt → Array Value → Prop} {Post : Pt → Array Value → Option Value → Pt → Prop} (hK : Back l R p e below s args y 3 W9 Pre Post)
    {g : JFrame} (hg : g.method = m) (hsize : g.locals.size = c.maxLocals) {argsL rest : List Value} (hlen : ∀ sig, parseMethodDescriptor y.desc = some sig → argsL.length = sig.parameters.length)
    (hstack : g.stack = argsL.reverse ++ rest) (hW : 2 * g.monitorRoom + (rest.map fun v => v.category).sum ≤ W9) (hdg : decode c.code g.pc = .ok (.invokestatic index, 3))
    (hpre : ∀ vm₁, s.WarmedH vm₁ → Pre ⟨T.setVm vm₁, locs, cells, slots⟩ argsL.toArray) :
    ∃ (v : Option Value) (vm₁ : Vm) (B : Pt), s.WarmedH vm₁ ∧ Stand p l e R s m args below meth c B.U B.locs B.cells B.slots ∧ Post ⟨T.setVm vm₁, locs, cells, slots⟩ argsL.toArray v B ∧
      ∀ target, Steps p.tables e below (B.U.setTop { g with pc := g.pc + 3, stack := v.toList ++ rest }) target → Steps p.tables e below (T.setTop g) target := by
  obtain ⟨mk, methM, cM, hnamed, hmethM, -, -, -, -, -, -, hsigM⟩ := Cond.codeWith_spec hcode
  have hstatic : methM.isStatic = true := Cond.static_spec hnamed hmethM hstat
  obtain ⟨kP, hkP, -⟩ := className_of_methodNamed hnamed
  have hinitP : kP.init = .initialized := Cond.initialized_spec (findClass_of_methodNamed hnamed) hkP hinit
  obtain ⟨vm₁, X₁, hstep₁⟩ := X.invokestatic hexec hown hlink hnamed hmethM hstatic hkP hinitP hy (g := g) hg (argsL := argsL) (rest := rest) (hlen _ hsigM) hstack hdg
  obtain ⟨v, B, X', hpost, hsteps⟩ := hK m meth c ⟨T.setVm vm₁, locs, cells, slots⟩ { g with stack := rest } (.invokestatic index) mk argsL.toArray X₁ hg hsize hdg hW (X₁.named hnamed) (hpre vm₁ X₁.warmed)
  exact ⟨v, vm₁, B, X₁.warmed, X', hpost, fun target h => hstep₁ _ fun acts => by rw [doInvoke_state]; exact hsteps.trans h⟩
theorem vx_runSW {y : MethodName} {bytes cc : ByteArray} {maxL nL mc ms n index : Nat} {ret : Option FieldType} {hh : List (Nat × Nat × Nat × Nat)} {ws : List Cond} {rm : Room} {Pc : Array Value → State → Prop} {Qc : Array Value → State → Outcome → State → Prop} {free : Addr → Prop} {Ts : List Cond} {own : String} {As rest : List Value} {g : JFrame}
    (S : CallFix p m c cc nL s args Ts own) (hM : Met l y ws rm Pc Qc mc ms free) (cw : vx_CSW R s args own index y bytes maxL ret hh ws rm mc ms n) (hp : PreS s H Pc As)
    (hg : g.method = m) (hn : As.length = n) (hsize : g.locals.size = nL) (hstack : g.stack = As.reverse ++ rest) (hW : 2 * g.monitorRoom + (rest.map fun v => v.category).sum ≤ 8) (hdg : decode cc g.pc = .ok (.invokestatic index, 3)) (hf : cells + mc ≤ R.cells ∧ slots + ms ≤ R.slots) :
    va_Run p l e R s m args below meth c H locs cells slots mc ms g rest (Qc As.toArray) (free) := by
  obtain ⟨⟨hrc, hrs, hfr, hlo, hws, hcw⟩, hcode, hini, hy, hlen, hl, hstt⟩ := cw
  have hK : Back l R p e below s args y 3 8 (PreOf R mc ms Pc) (PostOf Qc mc ms free) := va_backW (hh := hh) (bytes := bytes) (maxL := maxL) (ret := ret) hM hp.1 hrc hrs hfr hlo hws hcw (fun a' U hW => word_at hW (Or.inl (by first | rfl | simp [Cond.onTables, Cond.keeps, Cond.steady])) hini)
  obtain ⟨hx, hb, hml, ho, -⟩ := S
  intro T hT X
  obtain ⟨v, vm₁, ⟨U', l2, c2, s2⟩, hW₁, X', ⟨g', mk, t, L, e1, e2, hq, h1, hL, h2, h3⟩, st⟩ := vx_callSW X hx (hh := hh) (bytes := bytes) (maxL := maxL) (ret := ret) ho hl hstt hini hcode hy hK hg (hsize.trans hml.symm) (argsL := As) (rest := rest) (fun sig h => hn.trans (hlen sig h)) hstack hW (by rw [hb]; exact hdg)
    (fun vm₁ hW₁ => ⟨hf.1, hf.2, hp.2 (T.setVm vm₁) hT hW₁⟩)
  dsimp only [Pt.U, Pt.locs, Pt.cells, Pt.slots] at X' e1 e2 h1 h2 h3 st
  subst h1; subst h2; subst h3
  exact ⟨v, (T.setVm vm₁).calling g' mk As.toArray, t, U', L, hT, X', hL, e1, e2, hq, st⟩
/-- not caught here, past rows that name other classes: it goes on to the caller -/
theorem vx_outP {p : Program} {l : Launch} {e : Env} {R : Room} {s : State} {m : MethodId} {args : Array Value} {below : List Frame} {meth : Method} {c : Code} {H : Heap} {locs : List Loc} {cells slots : Nat} {free : Addr → Prop} {ls : Array Slot} {rest : List Value} {Qc : Array Value → State → Outcome → State → Prop} {XC : String → State → State → Prop}
    {pc : Nat} {own E : String} {ce : Cell} {q : Addr} {mc ms : Nat} (hown : s.vm.findClass own = some m.cls) (hlocks : meth.locks = false)
    (hpass : ∀ z ∈ c.exceptionTable.toList, covers z pc = false ∨ (z.catchType ≠ 0 ∧ ∃ nm : String, (Cond.classLink own z.catchType nm).before args s = true ∧ va_Nc E nm s)) (hcell : H[q]? = some ce) (hv : ce.vm = .none) (hcl : s.vm.findClass E = some ce.cls)
    (hx : ∀ t : State, t.heap = H → s.vm.Alike t.vm → XC E s t) (hf : ∀ z ∈ locs, free z.base) (hc : cells ≤ mc) (hs : slots ≤ ms) :
    vx_W p l e R s m args below meth c H locs cells slots (vx_MQ below Qc XC args s mc ms free) (F0 m pc ls rest) q := by
  intro T hT X
  have hpl : e.platform.magicAccessors = ({} : Platform).magicAccessors := by rw [X.admits.platform]
  obtain ⟨vm', hW', X', st⟩ := X.outThrough hlocks q (g := F0 m pc ls rest) rfl rfl rfl (cell := ce) (by rw [hT]; exact hcell) (by rw [hv]; rfl)
    (by obtain ⟨k9, h9, -⟩ := Vm.findClass_spec hcl; exact ⟨k9, h9⟩) (fun z hz => by
      rcases hpass z hz with h | ⟨hz0, nm, hl1, hn1⟩
      · exact Or.inl h
      · obtain ⟨c6, hc6, hcl6⟩ := Cond.classLink_spec hown hl1 e.platform hpl
        obtain ⟨a8, b8, h1, h2, h3⟩ := hn1
        cases Option.some.inj (h1.symm.trans hcl)
        cases Option.some.inj (h2.symm.trans hc6)
        exact Or.inr ⟨hz0, _, hcl6, h3⟩)
  obtain ⟨g₀, hfr⟩ := X'.frames_eq
  have hcell9 : ((T.setVm vm').setFrames (.throwing q :: below)).heap[q]? = some ce := by
    show T.heap[q]? = some ce
    rw [hT]; exact hcell
  have hend : Ended ((T.setVm vm').setFrames (.throwing q :: below)) below (.threw q) := State.frames_setFrames _ (State.cur_lt_of_frames hfr)
  refine ⟨(T.setVm vm').setFrames (.throwing q :: below), ?_, .threw q, X'.here.running, hend, Or.inr ⟨q, rfl, E, ce, locs, hx _ hT (X'.ends _).1.alike, hcell9, hv, hcl, (X'.ends _).1, (X'.ends _).2.mono hc hs, hf⟩⟩
  rw [X.pushThrowing_eq]
  exact st
/-- a thing of a world lies in the heap -/
theorem vx_lt {D : va_G} {cl : List vw_C} {ws : va_W} {H1 : Heap} (h : va_P D cl ws H1) {k : Nat} {q : Nat × va_E} (hk : ws[k]? = some q) : q.1 < H1.size := (h k q hk).lt
end VXS
/-! ===== END ===== -/
/-! ===== BEGIN methods with a table of their own: called by a name, returning or throwing ===== -/
section VXH
/-! vx_backW, vx_callVX, vx_callSX, vx_callVW, vx_runVW, vx_runVX, vx_runSX, vx_ofWH follow the same proofs as their sisters above (Free/Laws.lean, Shelf42/LK1.lean); vx_outP calls Shelf42/NT130.lean (outThrough). -/
section
variable {l : Launch} {R : Room} {p : Program} {e : Env} {below : List Frame} {s : State} {sargs : Array Value} {y : MethodName} {len W9 : Nat}
theorem vx_backW {ws : List Cond} {rm : Room} {Pc : Array Value → State → Prop} {Qc : Array Value → State → Outcome → State → Prop} {XC : String → State → State → Prop} {mc ms : Nat} {free : Addr → Prop} {bytes : ByteArray} {maxL : Nat} {ret : Option FieldType} {hh : List (Nat × Nat × Nat × Nat)}
    (hM : vx_Met l y ws rm Pc Qc XC mc ms free) (hblind : FrameBlind Pc) (hrc : rm.cells = mc) (hrs : rm.slots = ms)
    (hframes : rm.frames + 1 ≤ R.frames) (hlocals : W9 + (maxL + 11) + rm.locals ≤ R.locals)
    (hws : ∀ w ∈ ws, ∀ a' U, s.WarmedH U.vm → w.before a' U = true) (hcode : Cond.codeWith y bytes maxL ret hh ∈ ws) (hinit : ∀ a' U, s.WarmedH U.vm → (Cond.initialized y.cls).before a' U = true) :
    vx_Back l R p e below s sargs y len W9 (PreOf R mc ms Pc) (PostOf Qc mc ms free) (vx_Post XC mc ms free) := by
  intro m meth c A g ig mk a X hg hsize hdg hW hn hp
  have h1 : (headSpec ws rm).pre.before a A.U = true := atoms_intro fun w hw => hws w hw _ _ X.warmed
  have h2 : (Cond.codeWith y bytes maxL ret hh).before a A.U = true := hws _ hcode _ _ X.warmed
  have h3 : (Cond.initialized y.cls).before a A.U = true := hinit _ _ X.warmed
  have h4 : A.cells + (headSpec ws rm).room.cells ≤ R.cells := by rw [show (headSpec ws rm).room.cells = mc from hrc]; exact hp.1
  have h5 : A.slots + (headSpec ws rm).room.slots ≤ R.slots := by rw [show (headSpec ws rm).room.slots = ms from hrs]; exact hp.2.1
  have hPc : Pc a (A.U.calling g mk a) := hblind _ _ _ _ hp.2.2
  obtain ⟨U, Ls, c0, s0⟩ := A
  dsimp only [Pt.U, Pt.locs, Pt.cells, Pt.slots] at h1 h2 h3 h4 h5 X hn hPc ⊢
  obtain ⟨m9, methY, cY, hn9, hmY, hcY, -, hlY, -⟩ := Cond.codeWith_spec h2
  cases Option.some.inj (hn9.symm.trans hn)
  obtain ⟨kY, hkY, -⟩ := className_of_methodNamed hn
  have hinitY : kY.init = .initialized := Cond.initialized_spec (findClass_of_methodNamed hn) hkY h3
  have h : At U g.method c below := by rw [hg]; exact X.here
  have hlocals9 : W9 + (maxL + 11) + (headSpec ws rm).room.locals ≤ R.locals := hlocals
  have happ : (headSpec ws rm).appliesLoose y e.platform (U.calling g mk a) = true :=
    Spec.appliesLoose_calling (g := g) h hdg hn hkY hinitY
      (X.room_calling (g := g) (R' := (headSpec ws rm).room) hsize hmY hcY hframes (by rw [hlY]; omega) h4 h5) h1
  obtain ⟨mid, hmid⟩ := h.above
  have hfr : (U.setTop g).frames = (.java g :: mid) ++ below := by rw [State.frames_setTop' g h.top, hmid]; rfl
  obtain ⟨o, s₂, hsteps, -, hend, hq⟩ := Steps.callFree hM p X.admits X.cas X.clock (acts := []) hfr happ hPc trivial
  have hq' : vx_Q Qc XC mc ms free a (U.calling g mk a) o s₂ := hq
  rw [State.frames_setTop' g h.top] at hend
  obtain ⟨g₀, hg0⟩ := Option.isSome_iff_exists.mp h.top
  obtain ⟨r, hr⟩ := State.topJava?_eq_some.mp hg0
  have hr' : (({ U with heap := s₂.heap, slotsUsed := s₂.slotsUsed } : State).setVm s₂.vm).frames = .java g₀ :: r := hr
  rcases hq' with ⟨hqc, L, hfe, hL⟩ | ⟨q, rfl, E, ce, L, hx, hce, hcv, hcl, hW₂, hsm, hL⟩
  · obtain ⟨⟨v, rfl⟩, hW₂, e2, q2, q3, q4, q5, q6⟩ := id hfe
    have e3 : s₂ = ({ (U.calling g mk a).setFrames s₂.frames with heap := s₂.heap, slotsUsed := s₂.slotsUsed } : State).setVm s₂.vm := by
      have : s₂ = ({ s₂ with vm := (U.calling g mk a).vm } : State).setVm s₂.vm := rfl
      rw [e2] at this
      exact this
    obtain ⟨c₂, i₂, len₂, hc₂, hd₂, hf₂⟩ := hend
    have hW' : U.WarmedH s₂.vm := hW₂
    have hcc : c₂ = c := by
      have h1 : s₂.code? g.method = U.code? g.method := by
        rw [State.code?_eq, State.code?_eq, hW'.alike.method?]
      exact Option.some.inj (hc₂.symm.trans (h1.trans h.code))
    subst hcc
    have hlen : len₂ = len := by rw [hdg] at hd₂; cases hd₂; rfl
    subst hlen
    have hs₂ : s₂ = (({ U with heap := s₂.heap, slotsUsed := s₂.slotsUsed } : State).setVm s₂.vm).setTop { g with pc := g.pc + len₂, stack := v.toList ++ g.stack } := by
      refine e3.trans ?_
      rw [hf₂, State.calling_eq h.top, State.setFrames_setFrames, State.setTop_of_frames _ hr', hr]
      rfl
    have hsame : U.sameButNew ({ U with heap := s₂.heap, slotsUsed := s₂.slotsUsed } : State) L mc ms := by
      refine ⟨?_, q2, q3, q4, q5, q6⟩
      obtain ⟨t, ht, -⟩ := State.frames_cons hr
      show ({ U with heap := s₂.heap, slotsUsed := s₂.slotsUsed } : State) = { U.setFrames U.frames with heap := s₂.heap, slotsUsed := s₂.slotsUsed }
      rw [State.setFrames_self ht]
    subst hg
    refine Or.inl ⟨v, ⟨(({ U with heap := s₂.heap, slotsUsed := s₂.slotsUsed } : State).setVm s₂.vm), Ls ++ L, c0 + mc, s0 + ms⟩,
      ⟨X.admits, X.cas, X.clock, X.frames, X.room, X.hears, X.method, X.code, (X.here.setHeapUsed s₂.heap s₂.slotsUsed).setVm hW'.alike, X.tail, State.WarmedH.trans X.warmed hW', X.limits, X.bytes, X.same.trans (hsame.setVm s.vm)⟩,
      ⟨g, mk, s₂, L, rfl, rfl, hqc, rfl, hL, rfl, rfl⟩, ?_⟩
    show Steps p.tables e below _ ((({ U with heap := s₂.heap, slotsUsed := s₂.slotsUsed } : State).setVm s₂.vm).setTop { g with pc := g.pc + len₂, stack := v.toList ++ g.stack })
    rw [← hs₂]
    exact hsteps
  · obtain ⟨e2, q2, q3, q4, q5, q6⟩ := id hsm
    have e3 : s₂ = ({ (U.calling g mk a).setFrames s₂.frames with heap := s₂.heap, slotsUsed := s₂.slotsUsed } : State).setVm s₂.vm := by
      have : s₂ = ({ s₂ with vm := (U.calling g mk a).vm } : State).setVm s₂.vm := rfl
      rw [e2] at this
      exact this
    have hf₂ : s₂.frames = .throwing q :: .java g :: U.frames.tail := hend
    have hW' : U.WarmedH s₂.vm := hW₂
    have hs₂ : s₂ = ((({ U with heap := s₂.heap, slotsUsed := s₂.slotsUsed } : State).setVm s₂.vm).setTop g).pushFrame (.throwing q) := by
      refine e3.trans ?_
      rw [hf₂, State.calling_eq h.top, State.setFrames_setFrames, State.pushFrame, State.frames_setTop _ hr', State.setTop_of_frames _ hr', State.setFrames_setFrames, hr]
      rfl
    have hsame : U.sameButNew ({ U with heap := s₂.heap, slotsUsed := s₂.slotsUsed } : State) L mc ms := by
      refine ⟨?_, q2, q3, q4, q5, q6⟩
      obtain ⟨t, ht, -⟩ := State.frames_cons hr
      show ({ U with heap := s₂.heap, slotsUsed := s₂.slotsUsed } : State) = { U.setFrames U.frames with heap := s₂.heap, slotsUsed := s₂.slotsUsed }
      rw [State.setFrames_self ht]
    subst hg
    refine Or.inr ⟨q, ⟨(({ U with heap := s₂.heap, slotsUsed := s₂.slotsUsed } : State).setVm s₂.vm), Ls ++ L, c0 + mc, s0 + ms⟩,
      ⟨X.admits, X.cas, X.clock, X.frames, X.room, X.hears, X.method, X.code, (X.here.setHeapUsed s₂.heap s₂.slotsUsed).setVm hW'.alike, X.tail, State.WarmedH.trans X.warmed hW', X.limits, X.bytes, X.same.trans (hsame.setVm s.vm)⟩,
      ⟨g, mk, s₂, L, E, ce, rfl, rfl, hx, hce, hcv, hcl, rfl, hL, rfl, rfl⟩, ?_⟩
    show Steps p.tables e below _ (((({ U with heap := s₂.heap, slotsUsed := s₂.slotsUsed } : State).setVm s₂.vm).setTop g).pushFrame (.throwing q))
    rw [← hs₂]
    exact hsteps
end
variable {p : Program} {l : Launch} {e : Env} {R : Room} {s : State} {m : MethodId} {args : Array Value} {below : List Frame} {meth : Method} {c : Code} {T : State} {H : Heap} {locs : List Loc} {cells slots : Nat}
theorem vx_callVX (X : Stand p l e R s m args below meth c T locs cells slots) (hexec : p.tables.exec = Jvm.exec) {own C : String} {index : Nat} {y : MethodName} {bytes : ByteArray} {maxL : Nat} {ret : Option FieldType} {hh : List (Nat × Nat × Nat × Nat)}
    (hown : s.vm.findClass own = some m.cls) (hlink : (Cond.methodLink own index y).before args s = true) (hinst : (Cond.instanceMethod y).before args s = true) (hsel : (Cond.selects C y y).before args s = true)
    (hcode : (Cond.codeWith y bytes maxL ret hh).before args s = true) (hy : y.cls ≠ "java/lang/invoke/MethodHandle" ∧ y.cls ≠ "java/lang/invoke/VarHandle")
    {W9 : Nat} {Pre : Pt → Array Value → Prop} {Post : Pt → Array Value → Option Value → Pt → Prop} {PostX : Pt → Array Value → Addr → Pt → Prop} (hK : vx_Back l R p e below s args y 3 W9 Pre Post PostX)
    {b : Addr} {cellB : Cell} (hcell : T.heap[b]? = some cellB) (hobj : cellB.vm.isStatics = false) (hcls : s.vm.findClass C = some cellB.cls)
    {g : JFrame} (hg : g.method = m) (hsize : g.locals.size = c.maxLocals) {argsL rest : List Value} (hlen : ∀ sig, parseMethodDescriptor y.desc = some sig → argsL.length = sig.parameters.length)
    (hstack : g.stack = argsL.reverse ++ .ref b :: rest) (hW : 2 * g.monitorRoom + (rest.map fun v => v.category).sum ≤ W9) (hdg : decode c.code g.pc = .ok (.invokevirtual index, 3))
    (hpre : ∀ vm₁, s.WarmedH vm₁ → Pre ⟨T.setVm vm₁, locs, cells, slots⟩ (Value.ref b :: argsL).toArray) :
    (∃ (v : Option Value) (vm₁ : Vm) (B : Pt), s.WarmedH vm₁ ∧ Stand p l e R s m args below meth c B.U B.locs B.cells B.slots ∧ Post ⟨T.setVm vm₁, locs, cells, slots⟩ (Value.ref b :: argsL).toArray v B ∧
      ∀ target, Steps p.tables e below (B.U.setTop { g with pc := g.pc + 3, stack := v.toList ++ rest }) target → Steps p.tables e below (T.setTop g) target) ∨
    (∃ (q : Addr) (vm₁ : Vm) (B : Pt), s.WarmedH vm₁ ∧ Stand p l e R s m args below meth c B.U B.locs B.cells B.slots ∧ PostX ⟨T.setVm vm₁, locs, cells, slots⟩ (Value.ref b :: argsL).toArray q B ∧
      Steps p.tables e below (T.setTop g) ((B.U.setTop { g with stack := rest }).pushFrame (.throwing q))) := by
  obtain ⟨mk, methM, hnamed, hmethM, hstM, habM⟩ := Cond.instanceMethod_spec hinst
  obtain ⟨m8, methM', cM, hn8, hmethM', -, -, -, -, -, -, hsigM⟩ := Cond.codeWith_spec hcode
  cases Option.some.inj (hn8.symm.trans hnamed)
  cases hmethM.symm.trans hmethM'
  obtain ⟨c2, r2, m2, q1, q2, q3, q4, kP, hkP, hkPi⟩ := Cond.selects_spec hsel
  cases hcls.symm.trans q1
  cases (State.methodFound?_of_named hnamed hy).symm.trans q2
  cases hnamed.symm.trans q3
  have hselP : selectMethod e.platform s.vm cellB.cls mk = .method mk := by rw [Launch.admits_selectMethod X.admits]; exact q4
  obtain ⟨vm₁, X₁, hstep₁⟩ := X.invokevirtual hexec hown hlink hnamed hmethM hstM hkP hkPi hy (a := b) (cell := cellB) hcell
    (fun z h => by rw [h] at hobj; cases hobj) hselP hmethM habM hkP hkPi (g := g) hg (argsL := argsL) (rest := rest) (hlen _ hsigM) hstack hdg
  rcases hK m meth c ⟨T.setVm vm₁, locs, cells, slots⟩ { g with stack := rest } (.invokevirtual index) mk (Value.ref b :: argsL).toArray X₁ hg hsize hdg hW (X₁.named hnamed) (hpre vm₁ X₁.warmed) with ⟨v, B, X', hpost, hsteps⟩ | ⟨q, B, X', hpost, hsteps⟩
  · exact Or.inl ⟨v, vm₁, B, X₁.warmed, X', hpost, fun target h => hstep₁ _ fun acts => by rw [doInvoke_state]; exact hsteps.trans h⟩
  · exact Or.inr ⟨q, vm₁, B, X₁.warmed, X', hpost, hstep₁ _ fun acts => by rw [doInvoke_state]; exact hsteps⟩
theorem vx_callSX (X : Stand p l e R s m args below meth c T locs cells slots) (hexec : p.tables.exec = Jvm.exec) {own : String} {index : Nat} {y : MethodName} {bytes : ByteArray} {maxL : Nat} {ret : Option FieldType} {hh : List (Nat × Nat × Nat × Nat)}
    (hown : s.vm.findClass own = some m.cls) (hlink : (Cond.methodLink own index y).before args s = true) (hstat : (Cond.static y).before args s = true) (hinit : (Cond.initialized y.cls).before args s = true)
    (hcode : (Cond.codeWith y bytes maxL ret hh).before args s = true) (hy : y.cls ≠ "java/lang/invoke/MethodHandle" ∧ y.cls ≠ "java/lang/invoke/VarHandle")
    {W9 : Nat} {Pre : Pt → Array Value → Prop} {Post : Pt → Array Value → Option Value → Pt → Prop} {PostX : Pt → Array Value → Addr → Pt → Prop} (hK : vx_Back l R p e below s args y 3 W9 Pre Post PostX)
    {g : JFrame} (hg : g.method = m) (hsize : g.locals.size = c.maxLocals) {argsL rest : List Value} (hlen : ∀ sig, parseMethodDescriptor y.desc = some sig → argsL.length = sig.parameters.length)
    (hstack : g.stack = argsL.reverse ++ rest) (hW : 2 * g.monitorRoom + (rest.map fun v => v.category).sum ≤ W9) (hdg : decode c.code g.pc = .ok (.invokestatic index, 3))
    (hpre : ∀ vm₁, s.WarmedH vm₁ → Pre ⟨T.setVm vm₁, locs, cells, slots⟩ argsL.toArray) :
    (∃ (v : Option Value) (vm₁ : Vm) (B : Pt), s.WarmedH vm₁ ∧ Stand p l e R s m args below meth c B.U B.locs B.cells B.slots ∧ Post ⟨T.setVm vm₁, locs, cells, slots⟩ argsL.toArray v B ∧
      ∀ target, Steps p.tables e below (B.U.setTop { g with pc := g.pc + 3, stack := v.toList ++ rest }) target → Steps p.tables e below (T.setTop g) target) ∨
    (∃ (q : Addr) (vm₁ : Vm) (B : Pt), s.WarmedH vm₁ ∧ Stand p l e R s m args below meth c B.U B.locs B.cells B.slots ∧ PostX ⟨T.setVm vm₁, locs, cells, slots⟩ argsL.toArray q B ∧
      Steps p.tables e below (T.setTop g) ((B.U.setTop { g with stack := rest }).pushFrame (.throwing q))) := by
  obtain ⟨mk, methM, cM, hnamed, hmethM, -, -, -, -, -, -, hsigM⟩ := Cond.codeWith_spec hcode
  have hstatic : methM.isStatic = true := Cond.static_spec hnamed hmethM hstat
  obtain ⟨kP, hkP, -⟩ := className_of_methodNamed hnamed
  have hinitP : kP.init = .initialized := Cond.initialized_spec (findClass_of_methodNamed hnamed) hkP hinit
  obtain ⟨vm₁, X₁, hstep₁⟩ := X.invokestatic hexec hown hlink hnamed hmethM hstatic hkP hinitP hy (g := g) hg (argsL := argsL) (rest := rest) (hlen _ hsigM) hstack hdg
  rcases hK m meth c ⟨T.setVm vm₁, locs, cells, slots⟩ { g with stack := rest } (.invokestatic index) mk argsL.toArray X₁ hg hsize hdg hW (X₁.named hnamed) (hpre vm₁ X₁.warmed) with ⟨v, B, X', hpost, hsteps⟩ | ⟨q, B, X', hpost, hsteps⟩
  · exact Or.inl ⟨v, vm₁, B, X₁.warmed, X', hpost, fun target h => hstep₁ _ fun acts => by rw [doInvoke_state]; exact hsteps.trans h⟩
  · exact Or.inr ⟨q, vm₁, B, X₁.warmed, X', hpost, hstep₁ _ fun acts => by rw [doInvoke_state]; exact hsteps⟩
theorem vx_callVW (X : Stand p l e R s m args below meth c T locs cells slots) (hexec : p.tables.exec = Jvm.exec) {own C : String} {index : Nat} {y : MethodName} {bytes : ByteArray} {maxL : Nat} {ret : Option FieldType} {hh : List (Nat × Nat × Nat × Nat)}
    (hown : s.vm.findClass own = some m.cls) (hlink : (Cond.methodLink own index y).before args s = true) (hinst : (Cond.instanceMethod y).before args s = true) (hsel : (Cond.selects C y y).before args s = true)
    (hcode : (Cond.codeWith y bytes maxL ret hh).before args s = true) (hy : y.cls ≠ "java/lang/invoke/MethodHandle" ∧ y.cls ≠ "java/lang/invoke/VarHandle")
    {W9 : Nat} {Pre : Pt → Array Value → Prop} {Post : Pt → Array Value → Option Value → Pt → Prop} (hK : Back l R p e below s args y 3 W9 Pre Post)
    {b : Addr} {cellB : Cell} (hcell : T.heap[b]? = some cellB) (hobj : cellB.vm.isStatics = false) (hcls : s.vm.findClass C = some cellB.cls)
    {g : JFrame} (hg : g.method = m) (hsize : g.locals.size = c.maxLocals) {argsL rest : List Value} (hlen : ∀ sig, parseMethodDescriptor y.desc = some sig → argsL.length = sig.parameters.length)
    (hstack : g.stack = argsL.reverse ++ .ref b :: rest) (hW : 2 * g.monitorRoom + (rest.map fun v => v.category).sum ≤ W9) (hdg : decode c.code g.pc = .ok (.invokevirtual index, 3))
    (hpre : ∀ vm₁, s.WarmedH vm₁ → Pre ⟨T.setVm vm₁, locs, cells, slots⟩ (Value.ref b :: argsL).toArray) :
    ∃ (v : Option Value) (vm₁ : Vm) (B : Pt), s.WarmedH vm₁ ∧ Stand p l e R s m args below meth c B.U B.locs B.cells B.slots ∧ Post ⟨T.setVm vm₁, locs, cells, slots⟩ (Value.ref b :: argsL).toArray v B ∧
      ∀ target, Steps p.tables e below (B.U.setTop { g with pc := g.pc + 3, stack := v.toList ++ rest }) target → Steps p.tables e below (T.setTop g) target := by
  obtain ⟨mk, methM, hnamed, hmethM, hstM, habM⟩ := Cond.instanceMethod_spec hinst
  obtain ⟨m8, methM', cM, hn8, hmethM', -, -, -, -, -, -, hsigM⟩ := Cond.codeWith_spec hcode
  cases Option.some.inj (hn8.symm.trans hnamed)
  cases hmethM.symm.trans hmethM'
  obtain ⟨c2, r2, m2, q1, q2, q3, q4, kP, hkP, hkPi⟩ := Cond.selects_spec hsel
  cases hcls.symm.trans q1
  cases (State.methodFound?_of_named hnamed hy).symm.trans q2
  cases hnamed.symm.trans q3
  have hselP : selectMethod e.platform s.vm cellB.cls mk = .method mk := by rw [Launch.admits_selectMethod X.admits]; exact q4
  obtain ⟨vm₁, X₁, hstep₁⟩ := X.invokevirtual hexec hown hlink hnamed hmethM hstM hkP hkPi hy (a := b) (cell := cellB) hcell
    (fun z h => by rw [h] at hobj; cases hobj) hselP hmethM habM hkP hkPi (g := g) hg (argsL := argsL) (rest := rest) (hlen _ hsigM) hstack hdg
  obtain ⟨v, B, X', hpost, hsteps⟩ := hK m meth c ⟨T.setVm vm₁, locs, cells, slots⟩ { g with stack := rest } (.invokevirtual index) mk (Value.ref b :: argsL).toArray X₁ hg hsize hdg hW (X₁.named hnamed) (hpre vm₁ X₁.warmed)
  exact ⟨v, vm₁, B, X₁.warmed, X', hpost, fun target h => hstep₁ _ fun acts => by rw [doInvoke_state]; exact hsteps.trans h⟩
abbrev vx_CVW (R : Room) (s : State) (args : Array Value) (own C : String) (index : Nat) (y : MethodName) (bytes : ByteArray) (maxL : Nat) (ret : Option FieldType) (hh : List (Nat × Nat × Nat × Nat)) (ws : List Cond) (rm : Room) (mc ms n : Nat) : Prop :=
  (rm.cells = mc ∧ rm.slots = ms ∧ rm.frames + 1 ≤ R.frames ∧ 8 + (maxL + 11) + rm.locals ≤ R.locals ∧ (∀ w ∈ ws, ∀ (a' : Array Value) (U : State), s.WarmedH U.vm → w.before a' U = true) ∧ Cond.codeWith y bytes maxL ret hh ∈ ws) ∧
  (Cond.codeWith y bytes maxL ret hh).before args s = true ∧ (Cond.initialized y.cls).before args s = true ∧ (y.cls ≠ "java/lang/invoke/MethodHandle" ∧ y.cls ≠ "java/lang/invoke/VarHandle") ∧
  (∀ sig, parseMethodDescriptor y.desc = some sig → n = sig.parameters.length) ∧ (Cond.methodLink own index y).before args s = true ∧ (Cond.instanceMethod y).before args s = true ∧ (Cond.selects C y y).before args s = true
theorem vx_cwVW {own C : String} {index maxL mc ms : Nat} {y : MethodName} {bytes : ByteArray} {ret : Option FieldType} {hh : List (Nat × Nat × Nat × Nat)} {Ts ws ws' : List Cond} {rm : Room} (n : Nat) (ht : ∀ w ∈ Ts, w.before args s = true) (hT : GoodIn Ts (wsV own index C y ws)) (hw : ws = Cond.codeWith y bytes maxL ret hh :: ws') (hrc : rm.cells = mc) (hrs : rm.slots = ms)
    (hd : y.cls = C ∧ y.cls ≠ "java/lang/invoke/MethodHandle" ∧ y.cls ≠ "java/lang/invoke/VarHandle" ∧ (parseMethodDescriptor y.desc).map (fun d => d.parameters.length) = some n) (hR : rm.frames + 1 ≤ R.frames ∧ 8 + (maxL + 11) + rm.locals ≤ R.locals) :
    vx_CVW R s args own C index y bytes maxL ret hh ws rm mc ms n := by
  obtain ⟨hC, hd⟩ := hd
  subst hC
  have ok : ∀ w ∈ wsV own index y.cls y ws, w.before args s = true := fun w h => ht w (hT w h).1
  have hG : GoodIn Ts ws := fun w h => hT w (by unfold wsV; exact List.mem_append_right _ h)
  have hc : Cond.codeWith y bytes maxL ret hh ∈ ws := by rw [hw]; exact List.mem_cons_self
  refine ⟨⟨hrc, hrs, hR.1, hR.2, pay_in ht hG, hc⟩, ht _ (hG _ hc).1, ok _ (by simp [wsV]), ⟨hd.1, hd.2.1⟩, fun sig h => ?_, ok _ (by simp [wsV]), ok _ (by simp [wsV]), ok _ (by simp [wsV])⟩
  have h2 := hd.2.2
  rw [h] at h2
  exact (Option.some.inj h2).symm
theorem vx_runVW {y : MethodName} {bytes cc : ByteArray} {maxL nL mc ms n index : Nat} {ret : Option FieldType} {hh : List (Nat × Nat × Nat × Nat)} {ws : List Cond} {rm : Room} {Pc : Array Value → State → Prop} {Qc : Array Value → State → Outcome → State → Prop} {free : Addr → Prop} {Ts : List Cond} {own C : String} {b : Addr} {As rest : List Value} {g : JFrame}
    (S : CallFix p m c cc nL s args Ts own) (hM : Met l y ws rm Pc Qc mc ms free) (cw : vx_CVW R s args own C index y bytes maxL ret hh ws rm mc ms n) (hp : PreV s H C b Pc As)
    (hg : g.method = m) (hn : As.length = n) (hsize : g.locals.size = nL) (hstack : g.stack = As.reverse ++ .ref b :: rest) (hW : 2 * g.monitorRoom + (rest.map fun v => v.category).sum ≤ 8) (hdg : decode cc g.pc = .ok (.invokevirtual index, 3)) (hf : cells + mc ≤ R.cells ∧ slots + ms ≤ R.slots) :
    va_Run p l e R s m args below meth c H locs cells slots mc ms g rest (Qc (Value.ref b :: As).toArray) free := by
  obtain ⟨⟨hrc, hrs, hfr, hlo, hws, hcw⟩, hcode, hini, hy, hlen, hl, hin, hse⟩ := cw
  have hK : Back l R p e below s args y 3 8 (PreOf R mc ms Pc) (PostOf Qc mc ms free) := va_backW (hh := hh) (bytes := bytes) (maxL := maxL) (ret := ret) hM hp.1 hrc hrs hfr hlo hws hcw (fun a' U hW => word_at hW (Or.inl (by first | rfl | simp [Cond.onTables, Cond.keeps, Cond.steady])) hini)
  obtain ⟨hx, hb, hml, ho, -⟩ := S
  obtain ⟨-, ⟨cellB, hcB, hoB, hclB⟩, hPc⟩ := hp
  intro T hT X
  obtain ⟨v, vm₁, ⟨U', l2, c2, s2⟩, hW₁, X', ⟨g', mk, t, L, e1, e2, hq, h1, hL, h2, h3⟩, st⟩ := vx_callVW X hx (C := C) (hh := hh) (bytes := bytes) (maxL := maxL) (ret := ret) ho hl hin hse hcode hy hK (by rw [hT]; exact hcB) hoB hclB hg (hsize.trans hml.symm) (argsL := As) (rest := rest) (fun sig h => hn.trans (hlen sig h)) hstack hW (by rw [hb]; exact hdg)
    (fun vm₁ hW₁ => ⟨hf.1, hf.2, hPc (T.setVm vm₁) hT hW₁⟩)
  dsimp only [Pt.U, Pt.locs, Pt.cells, Pt.slots] at X' e1 e2 h1 h2 h3 st
  subst h1; subst h2; subst h3
  exact ⟨v, (T.setVm vm₁).calling g' mk (Value.ref b :: As).toArray, t, U', L, hT, X', hL, e1, e2, hq, st⟩
section
variable {y : MethodName} {bytes cc : ByteArray} {maxL nL mc ms n index : Nat} {ret : Option FieldType} {ws : List Cond} {rm : Room} {Pc : Array Value → State → Prop} {Qc : Array Value → State → Outcome → State → Prop} {XC : String → State → State → Prop} {free : Addr → Prop} {Ts : List Cond} {own C : String} {b : Addr} {As rest : List Value} {g : JFrame}
theorem vx_runVX {hh : List (Nat × Nat × Nat × Nat)} (S : CallFix p m c cc nL s args Ts own) (hM : vx_Met l y ws rm Pc Qc XC mc ms free) (cw : vx_CVW R s args own C index y bytes maxL ret hh ws rm mc ms n) (hp : PreV s H C b Pc As)
    (hg : g.method = m) (hn : As.length = n) (hsize : g.locals.size = nL) (hstack : g.stack = As.reverse ++ .ref b :: rest) (hW : 2 * g.monitorRoom + (rest.map fun v => v.category).sum ≤ 8) (hdg : decode cc g.pc = .ok (.invokevirtual index, 3)) (hf : cells + mc ≤ R.cells ∧ slots + ms ≤ R.slots) :
    vx_Run p l e R s m args below meth c H locs cells slots mc ms g rest (Qc (Value.ref b :: As).toArray) XC free := by
  obtain ⟨⟨hrc, hrs, hfr, hlo, hws, hcw⟩, hcode, hini, hy, hlen, hl, hin, hse⟩ := cw
  have hK : vx_Back l R p e below s args y 3 8 (PreOf R mc ms Pc) (PostOf Qc mc ms free) (vx_Post XC mc ms free) := vx_backW (hh := hh) (bytes := bytes) (maxL := maxL) (ret := ret) hM hp.1 hrc hrs hfr hlo hws hcw (fun a' U hW => word_at hW (Or.inl (by first | rfl | simp [Cond.onTables, Cond.keeps, Cond.steady])) hini)
  obtain ⟨hx, hb, hml, ho, -⟩ := S
  obtain ⟨-, ⟨cellB, hcB, hoB, hclB⟩, hPc⟩ := hp
  intro T hT X
  rcases vx_callVX X hx (C := C) (hh := hh) (bytes := bytes) (maxL := maxL) (ret := ret) ho hl hin hse hcode hy hK (by rw [hT]; exact hcB) hoB hclB hg (hsize.trans hml.symm) (argsL := As) (rest := rest) (fun sig h => hn.trans (hlen sig h)) hstack hW (by rw [hb]; exact hdg)
    (fun vm₁ hW₁ => ⟨hf.1, hf.2, hPc (T.setVm vm₁) hT hW₁⟩) with ⟨v, vm₁, ⟨U', l2, c2, s2⟩, hW₁, X', ⟨g', mk, t, L, e1, e2, hq, h1, hL, h2, h3⟩, st⟩ | ⟨q, vm₁, ⟨U', l2, c2, s2⟩, hW₁, X', ⟨g', mk, t, L, E, ce, e1, e2, hq, hce, hcv, hcl, h1, hL, h2, h3⟩, st⟩
  · dsimp only [Pt.U, Pt.locs, Pt.cells, Pt.slots] at X' e1 e2 h1 h2 h3 st
    subst h1; subst h2; subst h3
    exact Or.inl ⟨v, (T.setVm vm₁).calling g' mk (Value.ref b :: As).toArray, t, U', L, hT, X', hL, e1, e2, hq, st⟩
  · dsimp only [Pt.U, Pt.locs, Pt.cells, Pt.slots] at X' e1 e2 h1 h2 h3 st hcl
    subst h1; subst h2; subst h3
    exact Or.inr ⟨q, (T.setVm vm₁).calling g' mk (Value.ref b :: As).toArray, t, U', L, E, ce, hT, X', hL, e1, e2, hq, hce, hcv, vx_cls hW₁ hcl, st⟩
theorem vx_runSX {hh : List (Nat × Nat × Nat × Nat)} (S : CallFix p m c cc nL s args Ts own) (hM : vx_Met l y ws rm Pc Qc XC mc ms free) (cw : vx_CSW R s args own index y bytes maxL ret hh ws rm mc ms n) (hp : PreS s H Pc As)
    (hg : g.method = m) (hn : As.length = n) (hsize : g.locals.size = nL) (hstack : g.stack = As.reverse ++ rest) (hW : 2 * g.monitorRoom + (rest.map fun v => v.category).sum ≤ 8) (hdg : decode cc g.pc = .ok (.invokestatic index, 3)) (hf : cells + mc ≤ R.cells ∧ slots + ms ≤ R.slots) :
    vx_Run p l e R s m args below meth c H locs cells slots mc ms g rest (Qc As.toArray) XC free := by
  obtain ⟨⟨hrc, hrs, hfr, hlo, hws, hcw⟩, hcode, hini, hy, hlen, hl, hstt⟩ := cw
  have hK : vx_Back l R p e below s args y 3 8 (PreOf R mc ms Pc) (PostOf Qc mc ms free) (vx_Post XC mc ms free) := vx_backW (hh := hh) (bytes := bytes) (maxL := maxL) (ret := ret) hM hp.1 hrc hrs hfr hlo hws hcw (fun a' U hW => word_at hW (Or.inl (by first | rfl | simp [Cond.onTables, Cond.keeps, Cond.steady])) hini)
  obtain ⟨hx, hb, hml, ho, -⟩ := S
  intro T hT X
  rcases vx_callSX X hx (hh := hh) (bytes := bytes) (maxL := maxL) (ret := ret) ho hl hstt hini hcode hy hK hg (hsize.trans hml.symm) (argsL := As) (rest := rest) (fun sig h => hn.trans (hlen sig h)) hstack hW (by rw [hb]; exact hdg)
    (fun vm₁ hW₁ => ⟨hf.1, hf.2, hp.2 (T.setVm vm₁) hT hW₁⟩) with ⟨v, vm₁, ⟨U', l2, c2, s2⟩, hW₁, X', ⟨g', mk, t, L, e1, e2, hq, h1, hL, h2, h3⟩, st⟩ | ⟨q, vm₁, ⟨U', l2, c2, s2⟩, hW₁, X', ⟨g', mk, t, L, E, ce, e1, e2, hq, hce, hcv, hcl, h1, hL, h2, h3⟩, st⟩
  · dsimp only [Pt.U, Pt.locs, Pt.cells, Pt.slots] at X' e1 e2 h1 h2 h3 st
    subst h1; subst h2; subst h3
    exact Or.inl ⟨v, (T.setVm vm₁).calling g' mk As.toArray, t, U', L, hT, X', hL, e1, e2, hq, st⟩
  · dsimp only [Pt.U, Pt.locs, Pt.cells, Pt.slots] at X' e1 e2 h1 h2 h3 st hcl
    subst h1; subst h2; subst h3
    exact Or.inr ⟨q, (T.setVm vm₁).calling g' mk As.toArray, t, U', L, E, ce, hT, X', hL, e1, e2, hq, hce, hcv, vx_cls hW₁ hcl, st⟩
end
end VXH
theorem vx_ofWH {l : Launch} {y : MethodName} {ws ws' : List Cond} {rm : Room} {Pc : Array Value → State → Prop} {Qc : Array Value → State → Outcome → State → Prop} {XC : String → State → State → Prop} {mc ms : Nat} {free : Addr → Prop} {cc : ByteArray} {maxL : Nat} {ret : Option FieldType} {hh : List (Nat × Nat × Nat × Nat)}
    (hy : plainName y.cls = true) (hw : ws = Cond.codeWith y cc maxL ret hh :: ws')
    (body : ∀ p e s m args below meth c s₁, BodyLoose p l y (headSpec ws rm) cc maxL ret e s m args below meth c s₁ → c.maxLocals = maxL → Pc args s →
      W p l e (headSpec ws rm).room s m args below meth c s.heap [] 0 0 (vx_MQ below Qc XC args s mc ms free) (entryFrame m args maxL)) : vx_Met l y ws rm Pc Qc XC mc ms free := by
  refine MetFree.of_bodyS (code := cc) (maxLocals := maxL) (ret := ret) hy ?_ ?_
  · intro args s m h hn
    obtain ⟨m9, meth, c, hn9, h1, h2, h3, h4, -, h5, h6, -⟩ := Cond.codeWith_spec (atoms_spec (ws := ws) h _ (by rw [hw]; exact List.mem_cons_self))
    cases hn.symm.trans hn9
    exact ⟨meth, c, h1, h2, h3, h4, h5, h6⟩
  · intro p e s m args below meth c s₁ B hml hP _
    have hh0 : s₁.heap = s.heap := by rw [B.state]; rfl
    obtain ⟨t, a1, o, b1, b2, b3⟩ := body p e s m args below meth c s₁ B hml hP s₁ hh0 (Stand.of_body B)
    exact ⟨t, o, a1, b1, b2, b3⟩
/-! ===== END ===== -/

/-! ===== BEGIN printed: names, fields, word lists, decode rows ===== -/
end
section
def RX0 : String := "ClockShares$DeedReader"
def TX0 : u_T := fun k => match k with
  | _ => ("", "", "", false)
def tyX0 : Nat → FieldType := fun k => match k with
  | _ => .int
abbrev wsX00 : List Cond := u_ws RX0 TX0 0
theorem nmX0 : ∀ a, a < 0 → ∀ b, b < 0 → a ≠ b → (TX0 a).2.1 ≠ (TX0 b).2.1 := by decide +kernel
theorem tyX0_ok : ∀ k, k < 0 → parseFieldDescriptor (TX0 k).2.2.1 = some (tyX0 k) := by decide +kernel
abbrev cX0_readInto : ByteArray := prog_2_method_2_code
def yX0_readInto : MethodName := ⟨RX0, "readInto", "(LClockShares$House;LClockShares$Tape;)I"⟩
abbrev cX0_readLine : ByteArray := prog_2_method_3_code
def yX0_readLine : MethodName := ⟨RX0, "readLine", "(LClockShares$House;LClockShares$Tape;)V"⟩
abbrev cX0_readSetting : ByteArray := prog_2_method_4_code
def yX0_readSetting : MethodName := ⟨RX0, "readSetting", "(LClockShares$House;LClockShares$Tape;)V"⟩
abbrev cX0_readFamily : ByteArray := prog_2_method_5_code
def yX0_readFamily : MethodName := ⟨RX0, "readFamily", "(LClockShares$House;LClockShares$Tape;)V"⟩
abbrev cX0_readThing : ByteArray := prog_2_method_6_code
def yX0_readThing : MethodName := ⟨RX0, "readThing", "(LClockShares$House;LClockShares$Tape;)V"⟩
abbrev cX0_readFamilyNumber : ByteArray := prog_2_method_7_code
def yX0_readFamilyNumber : MethodName := ⟨RX0, "readFamilyNumber", "(LClockShares$House;LClockShares$Tape;)I"⟩
abbrev cX0_readHours : ByteArray := prog_2_method_8_code
def yX0_readHours : MethodName := ⟨RX0, "readHours", "(LClockShares$Tape;)I"⟩
def RX1 : String := "ClockShares$Families"
def TX1 : u_T := fun k => match k with
  | 0 => ("ClockShares$Families", "purse", "[I", true)
  | 1 => ("ClockShares$Families", "dust", "[I", true)
  | 2 => ("ClockShares$Families", "stove", "[I", true)
  | 3 => ("ClockShares$Families", "wishes", "[I", true)
  | _ => ("ClockShares$Families", "count", "I", false)
def tyX1 : Nat → FieldType := fun k => match k with
  | 0 => .array .int
  | 1 => .array .int
  | 2 => .array .int
  | 3 => .array .int
  | _ => .int
abbrev wsX10 : List Cond := u_ws RX1 TX1 5
theorem nmX1 : ∀ a, a < 5 → ∀ b, b < 5 → a ≠ b → (TX1 a).2.1 ≠ (TX1 b).2.1 := by decide +kernel
theorem tyX1_ok : ∀ k, k < 5 → parseFieldDescriptor (TX1 k).2.2.1 = some (tyX1 k) := by decide +kernel
abbrev cX1_init : ByteArray := prog_3_method_1_code
def yX1_init : MethodName := ⟨RX1, "<init>", "()V"⟩
abbrev cX1_copyFrom : ByteArray := prog_3_method_2_code
def yX1_copyFrom : MethodName := ⟨RX1, "copyFrom", "(LClockShares$Families;)V"⟩
abbrev cX1_has : ByteArray := prog_3_method_3_code
def yX1_has : MethodName := ⟨RX1, "has", "(I)Z"⟩
abbrev cX1_hasRoom : ByteArray := prog_3_method_4_code
def yX1_hasRoom : MethodName := ⟨RX1, "hasRoom", "()Z"⟩
abbrev cX1_everyone : ByteArray := prog_3_method_5_code
def yX1_everyone : MethodName := ⟨RX1, "everyone", "()I"⟩
abbrev cX1_found : ByteArray := prog_3_method_6_code
def yX1_found : MethodName := ⟨RX1, "found", "(III)I"⟩
abbrev cX1_addWishes : ByteArray := prog_3_method_7_code
def yX1_addWishes : MethodName := ⟨RX1, "addWishes", "(II)V"⟩
abbrev cX1_doesWish : ByteArray := prog_3_method_8_code
def yX1_doesWish : MethodName := ⟨RX1, "doesWish", "(II)Z"⟩
abbrev cX1_wishedBy : ByteArray := prog_3_method_9_code
def yX1_wishedBy : MethodName := ⟨RX1, "wishedBy", "(I)I"⟩
abbrev cX1_purseOf : ByteArray := prog_3_method_10_code
def yX1_purseOf : MethodName := ⟨RX1, "purseOf", "(I)I"⟩
abbrev cX1_pay : ByteArray := prog_3_method_11_code
def yX1_pay : MethodName := ⟨RX1, "pay", "(II)V"⟩
abbrev cX1_earn : ByteArray := prog_3_method_12_code
def yX1_earn : MethodName := ⟨RX1, "earn", "(II)V"⟩
abbrev cX1_allPurses : ByteArray := prog_3_method_13_code
def yX1_allPurses : MethodName := ⟨RX1, "allPurses", "()I"⟩
abbrev cX1_dusters : ByteArray := prog_3_method_14_code
def yX1_dusters : MethodName := ⟨RX1, "dusters", "(I)I"⟩
abbrev cX1_commonDust : ByteArray := prog_3_method_15_code
def yX1_commonDust : MethodName := ⟨RX1, "commonDust", "()I"⟩
def RX2 : String := "ClockShares$House"
def TX2 : u_T := fun k => match k with
  | 0 => ("ClockShares$House", "holder", "[I", true)
  | 1 => ("ClockShares$House", "families", "LClockShares$Families;", true)
  | 2 => ("ClockShares$House", "things", "LClockShares$Things;", true)
  | 3 => ("ClockShares$House", "log", "LClockShares$Log;", true)
  | 4 => ("ClockShares$House", "seen", "[I", true)
  | 5 => ("ClockShares$House", "law", "LClockShares$Law;", false)
  | 6 => ("ClockShares$House", "texts", "I", false)
  | 7 => ("ClockShares$House", "hour", "I", false)
  | 8 => ("ClockShares$House", "day", "I", false)
  | 9 => ("ClockShares$House", "heat", "I", false)
  | 10 => ("ClockShares$House", "dirt", "I", false)
  | 11 => ("ClockShares$House", "quarrel", "I", false)
  | 12 => ("ClockShares$House", "quarreller", "I", false)
  | 13 => ("ClockShares$House", "cold", "I", false)
  | 14 => ("ClockShares$House", "fine", "I", false)
  | 15 => ("ClockShares$House", "price", "I", false)
  | 16 => ("ClockShares$House", "guests", "I", false)
  | _ => ("ClockShares$House", "seed", "I", false)
def tyX2 : Nat → FieldType := fun k => match k with
  | 0 => .array .int
  | 1 => .object "ClockShares$Families"
  | 2 => .object "ClockShares$Things"
  | 3 => .object "ClockShares$Log"
  | 4 => .array .int
  | 5 => .object "ClockShares$Law"
  | 6 => .int
  | 7 => .int
  | 8 => .int
  | 9 => .int
  | 10 => .int
  | 11 => .int
  | 12 => .int
  | 13 => .int
  | 14 => .int
  | 15 => .int
  | 16 => .int
  | _ => .int
abbrev wsX20 : List Cond := u_ws RX2 TX2 18
theorem nmX2 : ∀ a, a < 18 → ∀ b, b < 18 → a ≠ b → (TX2 a).2.1 ≠ (TX2 b).2.1 := by decide +kernel
theorem tyX2_ok : ∀ k, k < 18 → parseFieldDescriptor (TX2 k).2.2.1 = some (tyX2 k) := by decide +kernel
abbrev cX2_init : ByteArray := prog_4_method_1_code
def yX2_init : MethodName := ⟨RX2, "<init>", "()V"⟩
abbrev cX2_copyFrom : ByteArray := prog_4_method_2_code
def yX2_copyFrom : MethodName := ⟨RX2, "copyFrom", "(LClockShares$House;)V"⟩
abbrev cX2_reading : ByteArray := prog_4_method_3_code
def yX2_reading : MethodName := ⟨RX2, "reading", "(I)I"⟩
abbrev cX2_lawLines : ByteArray := prog_4_method_4_code
def yX2_lawLines : MethodName := ⟨RX2, "lawLines", "()I"⟩
abbrev cX2_holderAt : ByteArray := prog_4_method_5_code
def yX2_holderAt : MethodName := ⟨RX2, "holderAt", "(I)I"⟩
abbrev cX2_inside : ByteArray := prog_4_method_6_code
def yX2_inside : MethodName := ⟨RX2, "inside", "()I"⟩
abbrev cX2_heldBy : ByteArray := prog_4_method_7_code
def yX2_heldBy : MethodName := ⟨RX2, "heldBy", "(I)I"⟩
abbrev cX2_giveHours : ByteArray := prog_4_method_8_code
def yX2_giveHours : MethodName := ⟨RX2, "giveHours", "(II)V"⟩
abbrev cX2_warmsBy : ByteArray := prog_4_method_9_code
def yX2_warmsBy : MethodName := ⟨RX2, "warmsBy", "(II)I"⟩
abbrev cX2_dustsBy : ByteArray := prog_4_method_10_code
def yX2_dustsBy : MethodName := ⟨RX2, "dustsBy", "(II)I"⟩
abbrev cX2_finedBy : ByteArray := prog_4_method_11_code
def yX2_finedBy : MethodName := ⟨RX2, "finedBy", "(I)I"⟩
abbrev cX2_look : ByteArray := prog_4_method_12_code
def yX2_look : MethodName := ⟨RX2, "look", "(II)V"⟩
abbrev cX2_passHour : ByteArray := prog_4_method_13_code
def yX2_passHour : MethodName := ⟨RX2, "passHour", "(Z)I"⟩
abbrev cX2_letVisitorsIn : ByteArray := prog_4_method_14_code
def yX2_letVisitorsIn : MethodName := ⟨RX2, "letVisitorsIn", "(I)V"⟩
abbrev cX2_turnClock : ByteArray := prog_4_method_15_code
def yX2_turnClock : MethodName := ⟨RX2, "turnClock", "()V"⟩
abbrev cX2_fineThingsOf : ByteArray := prog_4_method_16_code
def yX2_fineThingsOf : MethodName := ⟨RX2, "fineThingsOf", "(I)I"⟩
abbrev cX2_quarrelAfter : ByteArray := prog_4_method_17_code
def yX2_quarrelAfter : MethodName := ⟨RX2, "quarrelAfter", "(II)I"⟩
abbrev cX2_nextSeed : ByteArray := prog_4_method_18_code
def yX2_nextSeed : MethodName := ⟨RX2, "nextSeed", "(I)I"⟩
abbrev cX2_bringsQuarrel : ByteArray := prog_4_method_19_code
def yX2_bringsQuarrel : MethodName := ⟨RX2, "bringsQuarrel", "(I)Z"⟩
def RX3 : String := "ClockShares$Law"
def TX3 : u_T := fun k => match k with
  | 0 => ("ClockShares$Law", "lines", "I", true)
  | 1 => ("ClockShares$Law", "kinds", "[I", true)
  | 2 => ("ClockShares$Law", "amounts", "[I", true)
  | 3 => ("ClockShares$Law", "ends", "[I", true)
  | 4 => ("ClockShares$Law", "code", "[I", true)
  | _ => ("ClockShares$Law", "stack", "[I", true)
def tyX3 : Nat → FieldType := fun k => match k with
  | 0 => .int
  | 1 => .array .int
  | 2 => .array .int
  | 3 => .array .int
  | 4 => .array .int
  | _ => .array .int
abbrev wsX30 : List Cond := u_ws RX3 TX3 6
theorem nmX3 : ∀ a, a < 6 → ∀ b, b < 6 → a ≠ b → (TX3 a).2.1 ≠ (TX3 b).2.1 := by decide +kernel
theorem tyX3_ok : ∀ k, k < 6 → parseFieldDescriptor (TX3 k).2.2.1 = some (tyX3 k) := by decide +kernel
abbrev cX3_init : ByteArray := prog_5_method_1_code
def yX3_init : MethodName := ⟨RX3, "<init>", "(I[I[I[I[I)V"⟩
abbrev cX3_sumOf : ByteArray := prog_5_method_2_code
def yX3_sumOf : MethodName := ⟨RX3, "sumOf", "(I[I)I"⟩
abbrev cX3_isTrue : ByteArray := prog_5_method_3_code
def yX3_isTrue : MethodName := ⟨RX3, "isTrue", "(II[I)Z"⟩
abbrev cX3_joined : ByteArray := prog_5_method_4_code
def yX3_joined : MethodName := ⟨RX3, "joined", "(III)I"⟩
abbrev cX3_valueOf : ByteArray := prog_5_method_5_code
def yX3_valueOf : MethodName := ⟨RX3, "valueOf", "(I[I)I"⟩
def RX4 : String := "ClockShares$LawReader"
def TX4 : u_T := fun k => match k with
  | 0 => ("ClockShares$LawReader", "kinds", "[I", true)
  | 1 => ("ClockShares$LawReader", "amounts", "[I", true)
  | 2 => ("ClockShares$LawReader", "ends", "[I", true)
  | 3 => ("ClockShares$LawReader", "code", "[I", true)
  | 4 => ("ClockShares$LawReader", "lines", "I", false)
  | _ => ("ClockShares$LawReader", "length", "I", false)
def tyX4 : Nat → FieldType := fun k => match k with
  | 0 => .array .int
  | 1 => .array .int
  | 2 => .array .int
  | 3 => .array .int
  | 4 => .int
  | _ => .int
abbrev wsX40 : List Cond := u_ws RX4 TX4 6
theorem nmX4 : ∀ a, a < 6 → ∀ b, b < 6 → a ≠ b → (TX4 a).2.1 ≠ (TX4 b).2.1 := by decide +kernel
theorem tyX4_ok : ∀ k, k < 6 → parseFieldDescriptor (TX4 k).2.2.1 = some (tyX4 k) := by decide +kernel
abbrev cX4_init : ByteArray := prog_6_method_1_code
def yX4_init : MethodName := ⟨RX4, "<init>", "()V"⟩
abbrev cX4_readText : ByteArray := prog_6_method_2_code
def yX4_readText : MethodName := ⟨RX4, "readText", "(LClockShares$Tape;)I"⟩
abbrev cX4_lawRead : ByteArray := prog_6_method_3_code
def yX4_lawRead : MethodName := ⟨RX4, "lawRead", "()LClockShares$Law;"⟩
abbrev cX4_readKind : ByteArray := prog_6_method_4_code
def yX4_readKind : MethodName := ⟨RX4, "readKind", "(LClockShares$Tape;)I"⟩
abbrev cX4_readCondition : ByteArray := prog_6_method_5_code
def yX4_readCondition : MethodName := ⟨RX4, "readCondition", "(LClockShares$Tape;I)V"⟩
abbrev cX4_readAtom : ByteArray := prog_6_method_6_code
def yX4_readAtom : MethodName := ⟨RX4, "readAtom", "(LClockShares$Tape;I)V"⟩
abbrev cX4_readSum : ByteArray := prog_6_method_7_code
def yX4_readSum : MethodName := ⟨RX4, "readSum", "(LClockShares$Tape;)V"⟩
abbrev cX4_readPart : ByteArray := prog_6_method_8_code
def yX4_readPart : MethodName := ⟨RX4, "readPart", "(LClockShares$Tape;)V"⟩
abbrev cX4_put : ByteArray := prog_6_method_9_code
def yX4_put : MethodName := ⟨RX4, "put", "(I)V"⟩
def RX5 : String := "ClockShares$Log"
def TX5 : u_T := fun k => match k with
  | 0 => ("ClockShares$Log", "cells", "[I", true)
  | 1 => ("ClockShares$Log", "next", "I", false)
  | _ => ("ClockShares$Log", "size", "I", false)
def tyX5 : Nat → FieldType := fun k => match k with
  | 0 => .array .int
  | 1 => .int
  | _ => .int
abbrev wsX50 : List Cond := u_ws RX5 TX5 3
theorem nmX5 : ∀ a, a < 3 → ∀ b, b < 3 → a ≠ b → (TX5 a).2.1 ≠ (TX5 b).2.1 := by decide +kernel
theorem tyX5_ok : ∀ k, k < 3 → parseFieldDescriptor (TX5 k).2.2.1 = some (tyX5 k) := by decide +kernel
abbrev cX5_init : ByteArray := prog_7_method_1_code
def yX5_init : MethodName := ⟨RX5, "<init>", "()V"⟩
abbrev cX5_copyFrom : ByteArray := prog_7_method_2_code
def yX5_copyFrom : MethodName := ⟨RX5, "copyFrom", "(LClockShares$Log;)V"⟩
abbrev cX5_append : ByteArray := prog_7_method_3_code
def yX5_append : MethodName := ⟨RX5, "append", "(IIIII)V"⟩
abbrev cX5_entry : ByteArray := prog_7_method_4_code
def yX5_entry : MethodName := ⟨RX5, "entry", "(II)I"⟩
abbrev cX5_rowsOfFamily : ByteArray := prog_7_method_5_code
def yX5_rowsOfFamily : MethodName := ⟨RX5, "rowsOfFamily", "(I)I"⟩
abbrev cX5_latestDayOf : ByteArray := prog_7_method_6_code
def yX5_latestDayOf : MethodName := ⟨RX5, "latestDayOf", "(I)I"⟩
def RX6 : String := "ClockShares$Memory"
def TX6 : u_T := fun k => match k with
  | 0 => ("ClockShares$Memory", "before", "[LClockShares$House;", true)
  | 1 => ("ClockShares$Memory", "next", "I", false)
  | _ => ("ClockShares$Memory", "size", "I", false)
def tyX6 : Nat → FieldType := fun k => match k with
  | 0 => .array (.object "ClockShares$House")
  | 1 => .int
  | _ => .int
abbrev wsX60 : List Cond := u_ws RX6 TX6 3
theorem nmX6 : ∀ a, a < 3 → ∀ b, b < 3 → a ≠ b → (TX6 a).2.1 ≠ (TX6 b).2.1 := by decide +kernel
theorem tyX6_ok : ∀ k, k < 3 → parseFieldDescriptor (TX6 k).2.2.1 = some (tyX6 k) := by decide +kernel
abbrev cX6_init : ByteArray := prog_8_method_1_code
def yX6_init : MethodName := ⟨RX6, "<init>", "()V"⟩
abbrev cX6_keep : ByteArray := prog_8_method_2_code
def yX6_keep : MethodName := ⟨RX6, "keep", "(LClockShares$House;)V"⟩
abbrev cX6_takeBack : ByteArray := prog_8_method_3_code
def yX6_takeBack : MethodName := ⟨RX6, "takeBack", "(LClockShares$House;)Z"⟩
abbrev cX6_forget : ByteArray := prog_8_method_4_code
def yX6_forget : MethodName := ⟨RX6, "forget", "()V"⟩
def RX7 : String := "ClockShares$Shares"
def TX7 : u_T := fun k => match k with
  | _ => ("", "", "", false)
def tyX7 : Nat → FieldType := fun k => match k with
  | _ => .int
abbrev wsX70 : List Cond := u_ws RX7 TX7 0
theorem nmX7 : ∀ a, a < 0 → ∀ b, b < 0 → a ≠ b → (TX7 a).2.1 ≠ (TX7 b).2.1 := by decide +kernel
theorem tyX7_ok : ∀ k, k < 0 → parseFieldDescriptor (TX7 k).2.2.1 = some (tyX7 k) := by decide +kernel
abbrev cX7_longestRow : ByteArray := prog_9_method_2_code
def yX7_longestRow : MethodName := ⟨RX7, "longestRow", "(I)I"⟩
abbrev cX7_hourLater : ByteArray := prog_9_method_3_code
def yX7_hourLater : MethodName := ⟨RX7, "hourLater", "(I)I"⟩
abbrev cX7_hourSooner : ByteArray := prog_9_method_4_code
def yX7_hourSooner : MethodName := ⟨RX7, "hourSooner", "(I)I"⟩
abbrev cX7_comesIn : ByteArray := prog_9_method_5_code
def yX7_comesIn : MethodName := ⟨RX7, "comesIn", "(LClockShares$House;I)I"⟩
abbrev cX7_changesOf : ByteArray := prog_9_method_6_code
def yX7_changesOf : MethodName := ⟨RX7, "changesOf", "(LClockShares$House;)I"⟩
abbrev cX7_meetings : ByteArray := prog_9_method_7_code
def yX7_meetings : MethodName := ⟨RX7, "meetings", "(LClockShares$House;II)I"⟩
abbrev cX7_gapsOf : ByteArray := prog_9_method_8_code
def yX7_gapsOf : MethodName := ⟨RX7, "gapsOf", "(LClockShares$House;)I"⟩
abbrev cX7_loversOf : ByteArray := prog_9_method_9_code
def yX7_loversOf : MethodName := ⟨RX7, "loversOf", "(LClockShares$House;)I"⟩
abbrev cX7_lessonOf : ByteArray := prog_9_method_10_code
def yX7_lessonOf : MethodName := ⟨RX7, "lessonOf", "(LClockShares$House;I)I"⟩
abbrev cX7_startsOfRows : ByteArray := prog_9_method_11_code
def yX7_startsOfRows : MethodName := ⟨RX7, "startsOfRows", "(II)I"⟩
abbrev cX7_widowsOf : ByteArray := prog_9_method_12_code
def yX7_widowsOf : MethodName := ⟨RX7, "widowsOf", "(LClockShares$House;)I"⟩
abbrev cX7_mostDealt : ByteArray := prog_9_method_13_code
def yX7_mostDealt : MethodName := ⟨RX7, "mostDealt", "(LClockShares$House;)I"⟩
abbrev cX7_bestSwap : ByteArray := prog_9_method_14_code
def yX7_bestSwap : MethodName := ⟨RX7, "bestSwap", "(LClockShares$House;)I"⟩
abbrev cX7_swapGain : ByteArray := prog_9_method_15_code
def yX7_swapGain : MethodName := ⟨RX7, "swapGain", "(LClockShares$House;II)I"⟩
abbrev cX7_moveGain : ByteArray := prog_9_method_16_code
def yX7_moveGain : MethodName := ⟨RX7, "moveGain", "(LClockShares$House;III)I"⟩
abbrev cX7_fewestChanges : ByteArray := prog_9_method_17_code
def yX7_fewestChanges : MethodName := ⟨RX7, "fewestChanges", "(LClockShares$House;)I"⟩
abbrev cX7_cornerOf : ByteArray := prog_9_method_18_code
def yX7_cornerOf : MethodName := ⟨RX7, "cornerOf", "(LClockShares$House;I)I"⟩
abbrev cX7_isOthers : ByteArray := prog_9_method_19_code
def yX7_isOthers : MethodName := ⟨RX7, "isOthers", "(LClockShares$House;II)Z"⟩
abbrev cX7_rowFrom : ByteArray := prog_9_method_20_code
def yX7_rowFrom : MethodName := ⟨RX7, "rowFrom", "(LClockShares$House;I)I"⟩
def RX8 : String := "ClockShares$Tape"
def TX8 : u_T := fun k => match k with
  | 0 => ("ClockShares$Tape", "bytes", "[I", true)
  | 1 => ("ClockShares$Tape", "length", "I", false)
  | 2 => ("ClockShares$Tape", "at", "I", false)
  | _ => ("ClockShares$Tape", "wrong", "I", false)
def tyX8 : Nat → FieldType := fun k => match k with
  | 0 => .array .int
  | 1 => .int
  | 2 => .int
  | _ => .int
abbrev wsX80 : List Cond := u_ws RX8 TX8 4
theorem nmX8 : ∀ a, a < 4 → ∀ b, b < 4 → a ≠ b → (TX8 a).2.1 ≠ (TX8 b).2.1 := by decide +kernel
theorem tyX8_ok : ∀ k, k < 4 → parseFieldDescriptor (TX8 k).2.2.1 = some (tyX8 k) := by decide +kernel
abbrev cX8_init : ByteArray := prog_10_method_1_code
def yX8_init : MethodName := ⟨RX8, "<init>", "()V"⟩
abbrev cX8_append : ByteArray := prog_10_method_2_code
def yX8_append : MethodName := ⟨RX8, "append", "(I)V"⟩
abbrev cX8_byteAt : ByteArray := prog_10_method_3_code
def yX8_byteAt : MethodName := ⟨RX8, "byteAt", "(I)I"⟩
abbrev cX8_beginText : ByteArray := prog_10_method_4_code
def yX8_beginText : MethodName := ⟨RX8, "beginText", "()V"⟩
abbrev cX8_firstWrong : ByteArray := prog_10_method_5_code
def yX8_firstWrong : MethodName := ⟨RX8, "firstWrong", "()I"⟩
abbrev cX8_goesOn : ByteArray := prog_10_method_6_code
def yX8_goesOn : MethodName := ⟨RX8, "goesOn", "()Z"⟩
abbrev cX8_refuse : ByteArray := prog_10_method_7_code
def yX8_refuse : MethodName := ⟨RX8, "refuse", "()V"⟩
abbrev cX8_takeWord : ByteArray := prog_10_method_8_code
def yX8_takeWord : MethodName := ⟨RX8, "takeWord", "(Ljava/lang/String;)Z"⟩
abbrev cX8_needWord : ByteArray := prog_10_method_9_code
def yX8_needWord : MethodName := ⟨RX8, "needWord", "(Ljava/lang/String;)V"⟩
abbrev cX8_takeSign : ByteArray := prog_10_method_10_code
def yX8_takeSign : MethodName := ⟨RX8, "takeSign", "(C)Z"⟩
abbrev cX8_needSign : ByteArray := prog_10_method_11_code
def yX8_needSign : MethodName := ⟨RX8, "needSign", "(C)V"⟩
abbrev cX8_seesNumber : ByteArray := prog_10_method_12_code
def yX8_seesNumber : MethodName := ⟨RX8, "seesNumber", "()Z"⟩
abbrev cX8_takeNumber : ByteArray := prog_10_method_13_code
def yX8_takeNumber : MethodName := ⟨RX8, "takeNumber", "(II)I"⟩
abbrev cX8_skipBlanks : ByteArray := prog_10_method_14_code
def yX8_skipBlanks : MethodName := ⟨RX8, "skipBlanks", "()V"⟩
abbrev cX8_isLetter : ByteArray := prog_10_method_15_code
def yX8_isLetter : MethodName := ⟨RX8, "isLetter", "(I)Z"⟩
abbrev cX8_isDigit : ByteArray := prog_10_method_16_code
def yX8_isDigit : MethodName := ⟨RX8, "isDigit", "(I)Z"⟩
def RX9 : String := "ClockShares$Things"
def TX9 : u_T := fun k => match k with
  | 0 => ("ClockShares$Things", "owner", "[I", true)
  | 1 => ("ClockShares$Things", "bulk", "[I", true)
  | 2 => ("ClockShares$Things", "left", "I", false)
  | _ => ("ClockShares$Things", "count", "I", false)
def tyX9 : Nat → FieldType := fun k => match k with
  | 0 => .array .int
  | 1 => .array .int
  | 2 => .int
  | _ => .int
abbrev wsX90 : List Cond := u_ws RX9 TX9 4
theorem nmX9 : ∀ a, a < 4 → ∀ b, b < 4 → a ≠ b → (TX9 a).2.1 ≠ (TX9 b).2.1 := by decide +kernel
theorem tyX9_ok : ∀ k, k < 4 → parseFieldDescriptor (TX9 k).2.2.1 = some (tyX9 k) := by decide +kernel
abbrev cX9_init : ByteArray := prog_11_method_1_code
def yX9_init : MethodName := ⟨RX9, "<init>", "()V"⟩
abbrev cX9_copyFrom : ByteArray := prog_11_method_2_code
def yX9_copyFrom : MethodName := ⟨RX9, "copyFrom", "(LClockShares$Things;)V"⟩
abbrev cX9_has : ByteArray := prog_11_method_3_code
def yX9_has : MethodName := ⟨RX9, "has", "(I)Z"⟩
abbrev cX9_hasRoom : ByteArray := prog_11_method_4_code
def yX9_hasRoom : MethodName := ⟨RX9, "hasRoom", "()Z"⟩
abbrev cX9_bring : ByteArray := prog_11_method_5_code
def yX9_bring : MethodName := ⟨RX9, "bring", "(IIZ)V"⟩
abbrev cX9_isLeft : ByteArray := prog_11_method_6_code
def yX9_isLeft : MethodName := ⟨RX9, "isLeft", "(I)Z"⟩
abbrev cX9_putDown : ByteArray := prog_11_method_7_code
def yX9_putDown : MethodName := ⟨RX9, "putDown", "(I)V"⟩
abbrev cX9_takeAlong : ByteArray := prog_11_method_8_code
def yX9_takeAlong : MethodName := ⟨RX9, "takeAlong", "(I)V"⟩
abbrev cX9_bulkLeft : ByteArray := prog_11_method_9_code
def yX9_bulkLeft : MethodName := ⟨RX9, "bulkLeft", "()I"⟩
abbrev cX9_bulkLeftByOthers : ByteArray := prog_11_method_10_code
def yX9_bulkLeftByOthers : MethodName := ⟨RX9, "bulkLeftByOthers", "(I)I"⟩
def RX10 : String := "ClockShares$Worth"
def TX10 : u_T := fun k => match k with
  | _ => ("", "", "", false)
def tyX10 : Nat → FieldType := fun k => match k with
  | _ => .int
abbrev wsX100 : List Cond := u_ws RX10 TX10 0
theorem nmX10 : ∀ a, a < 0 → ∀ b, b < 0 → a ≠ b → (TX10 a).2.1 ≠ (TX10 b).2.1 := by decide +kernel
theorem tyX10_ok : ∀ k, k < 0 → parseFieldDescriptor (TX10 k).2.2.1 = some (tyX10 k) := by decide +kernel
abbrev cX10_worthOf : ByteArray := prog_12_method_2_code
def yX10_worthOf : MethodName := ⟨RX10, "worthOf", "(LClockShares$House;I)I"⟩
abbrev cX10_partOf : ByteArray := prog_12_method_3_code
def yX10_partOf : MethodName := ⟨RX10, "partOf", "(LClockShares$House;II)I"⟩
abbrev cX10_ordersOf : ByteArray := prog_12_method_4_code
def yX10_ordersOf : MethodName := ⟨RX10, "ordersOf", "(I)J"⟩
abbrev cX10_settledBids : ByteArray := prog_12_method_5_code
def yX10_settledBids : MethodName := ⟨RX10, "settledBids", "(LClockShares$House;III)I"⟩
abbrev cX10_staysWith : ByteArray := prog_12_method_6_code
def yX10_staysWith : MethodName := ⟨RX10, "staysWith", "(LClockShares$House;IIII)Z"⟩
abbrev cX10_bidGain : ByteArray := prog_12_method_7_code
def yX10_bidGain : MethodName := ⟨RX10, "bidGain", "(LClockShares$House;IIII)I"⟩
abbrev cX10_richestOf : ByteArray := prog_12_method_8_code
def yX10_richestOf : MethodName := ⟨RX10, "richestOf", "(LClockShares$House;)I"⟩
def RX11 : String := "ClockShares"
def TX11 : u_T := fun k => match k with
  | 0 => ("ClockShares", "tape", "LClockShares$Tape;", true)
  | 1 => ("ClockShares", "lawReader", "LClockShares$LawReader;", true)
  | 2 => ("ClockShares", "now", "LClockShares$House;", true)
  | 3 => ("ClockShares", "draft", "LClockShares$House;", true)
  | 4 => ("ClockShares", "kept", "LClockShares$House;", true)
  | 5 => ("ClockShares", "memory", "LClockShares$Memory;", true)
  | 6 => ("ClockShares", "isKept", "Z", false)
  | _ => ("ClockShares", "faultAt", "I", false)
def tyX11 : Nat → FieldType := fun k => match k with
  | 0 => .object "ClockShares$Tape"
  | 1 => .object "ClockShares$LawReader"
  | 2 => .object "ClockShares$House"
  | 3 => .object "ClockShares$House"
  | 4 => .object "ClockShares$House"
  | 5 => .object "ClockShares$Memory"
  | 6 => .boolean
  | _ => .int
abbrev wsX110 : List Cond := u_ws RX11 TX11 8
theorem nmX11 : ∀ a, a < 8 → ∀ b, b < 8 → a ≠ b → (TX11 a).2.1 ≠ (TX11 b).2.1 := by decide +kernel
theorem tyX11_ok : ∀ k, k < 8 → parseFieldDescriptor (TX11 k).2.2.1 = some (tyX11 k) := by decide +kernel
abbrev cX11_init : ByteArray := prog_1_method_1_code
def yX11_init : MethodName := ⟨RX11, "<init>", "()V"⟩
abbrev cX11_feed : ByteArray := prog_1_method_2_code
def yX11_feed : MethodName := ⟨RX11, "feed", "(IIIII)I"⟩
abbrev cX11_end : ByteArray := prog_1_method_3_code
def yX11_end : MethodName := ⟨RX11, "end", "(I)Z"⟩
abbrev cX11_deed : ByteArray := prog_1_method_4_code
def yX11_deed : MethodName := ⟨RX11, "deed", "()I"⟩
abbrev cX11_law : ByteArray := prog_1_method_5_code
def yX11_law : MethodName := ⟨RX11, "law", "()I"⟩
abbrev cX11_fault : ByteArray := prog_1_method_6_code
def yX11_fault : MethodName := ⟨RX11, "fault", "()I"⟩
abbrev cX11_holds : ByteArray := prog_1_method_7_code
def yX11_holds : MethodName := ⟨RX11, "holds", "(I)I"⟩
abbrev cX11_family : ByteArray := prog_1_method_8_code
def yX11_family : MethodName := ⟨RX11, "family", "(II)I"⟩
abbrev cX11_does : ByteArray := prog_1_method_9_code
def yX11_does : MethodName := ⟨RX11, "does", "(III)I"⟩
abbrev cX11_thing : ByteArray := prog_1_method_10_code
def yX11_thing : MethodName := ⟨RX11, "thing", "(II)I"⟩
abbrev cX11_sell : ByteArray := prog_1_method_11_code
def yX11_sell : MethodName := ⟨RX11, "sell", "(II)I"⟩
abbrev cX11_buy : ByteArray := prog_1_method_12_code
def yX11_buy : MethodName := ⟨RX11, "buy", "(II)I"⟩
abbrev cX11_swap : ByteArray := prog_1_method_13_code
def yX11_swap : MethodName := ⟨RX11, "swap", "(II)I"⟩
abbrev cX11_free : ByteArray := prog_1_method_14_code
def yX11_free : MethodName := ⟨RX11, "free", "(I)I"⟩
abbrev cX11_leave : ByteArray := prog_1_method_15_code
def yX11_leave : MethodName := ⟨RX11, "leave", "(I)I"⟩
abbrev cX11_fetch : ByteArray := prog_1_method_16_code
def yX11_fetch : MethodName := ⟨RX11, "fetch", "(I)I"⟩
abbrev cX11_quiet : ByteArray := prog_1_method_17_code
def yX11_quiet : MethodName := ⟨RX11, "quiet", "()I"⟩
abbrev cX11_dust : ByteArray := prog_1_method_18_code
def yX11_dust : MethodName := ⟨RX11, "dust", "()I"⟩
abbrev cX11_hours : ByteArray := prog_1_method_19_code
def yX11_hours : MethodName := ⟨RX11, "hours", "(I)I"⟩
abbrev cX11_changes : ByteArray := prog_1_method_20_code
def yX11_changes : MethodName := ⟨RX11, "changes", "()I"⟩
abbrev cX11_met : ByteArray := prog_1_method_21_code
def yX11_met : MethodName := ⟨RX11, "met", "(II)I"⟩
abbrev cX11_gaps : ByteArray := prog_1_method_22_code
def yX11_gaps : MethodName := ⟨RX11, "gaps", "()I"⟩
abbrev cX11_deal : ByteArray := prog_1_method_23_code
def yX11_deal : MethodName := ⟨RX11, "deal", "()I"⟩
abbrev cX11_trade : ByteArray := prog_1_method_24_code
def yX11_trade : MethodName := ⟨RX11, "trade", "()I"⟩
abbrev cX11_fewest : ByteArray := prog_1_method_25_code
def yX11_fewest : MethodName := ⟨RX11, "fewest", "()I"⟩
abbrev cX11_worth : ByteArray := prog_1_method_26_code
def yX11_worth : MethodName := ⟨RX11, "worth", "(I)I"⟩
abbrev cX11_part : ByteArray := prog_1_method_27_code
def yX11_part : MethodName := ⟨RX11, "part", "(II)I"⟩
abbrev cX11_corner : ByteArray := prog_1_method_28_code
def yX11_corner : MethodName := ⟨RX11, "corner", "(I)I"⟩
abbrev cX11_bids : ByteArray := prog_1_method_29_code
def yX11_bids : MethodName := ⟨RX11, "bids", "(III)I"⟩
abbrev cX11_who : ByteArray := prog_1_method_30_code
def yX11_who : MethodName := ⟨RX11, "who", "(Z)I"⟩
abbrev cX11_common : ByteArray := prog_1_method_31_code
def yX11_common : MethodName := ⟨RX11, "common", "()I"⟩
abbrev cX11_lovers : ByteArray := prog_1_method_32_code
def yX11_lovers : MethodName := ⟨RX11, "lovers", "()I"⟩
abbrev cX11_lesson : ByteArray := prog_1_method_33_code
def yX11_lesson : MethodName := ⟨RX11, "lesson", "(I)I"⟩
abbrev cX11_widows : ByteArray := prog_1_method_34_code
def yX11_widows : MethodName := ⟨RX11, "widows", "()I"⟩
abbrev cX11_ahead : ByteArray := prog_1_method_35_code
def yX11_ahead : MethodName := ⟨RX11, "ahead", "(II)I"⟩
abbrev cX11_dusty : ByteArray := prog_1_method_36_code
def yX11_dusty : MethodName := ⟨RX11, "dusty", "(I)I"⟩
abbrev cX11_warmest : ByteArray := prog_1_method_37_code
def yX11_warmest : MethodName := ⟨RX11, "warmest", "(I)I"⟩
abbrev cX11_ruin : ByteArray := prog_1_method_38_code
def yX11_ruin : MethodName := ⟨RX11, "ruin", "(I)I"⟩
abbrev cX11_rich : ByteArray := prog_1_method_39_code
def yX11_rich : MethodName := ⟨RX11, "rich", "()I"⟩
abbrev cX11_cramped : ByteArray := prog_1_method_40_code
def yX11_cramped : MethodName := ⟨RX11, "cramped", "()I"⟩
abbrev cX11_trial : ByteArray := prog_1_method_41_code
def yX11_trial : MethodName := ⟨RX11, "trial", "(IZ)I"⟩
abbrev cX11_span : ByteArray := prog_1_method_42_code
def yX11_span : MethodName := ⟨RX11, "span", "(IZ)I"⟩
abbrev cX11_led : ByteArray := prog_1_method_43_code
def yX11_led : MethodName := ⟨RX11, "led", "(IZ)I"⟩
abbrev cX11_log : ByteArray := prog_1_method_44_code
def yX11_log : MethodName := ⟨RX11, "log", "(II)I"⟩
abbrev cX11_seed : ByteArray := prog_1_method_45_code
def yX11_seed : MethodName := ⟨RX11, "seed", "(I)I"⟩
abbrev cX11_undo : ByteArray := prog_1_method_46_code
def yX11_undo : MethodName := ⟨RX11, "undo", "()Z"⟩
abbrev cX11_image : ByteArray := prog_1_method_47_code
def yX11_image : MethodName := ⟨RX11, "image", "()V"⟩
abbrev cX11_back : ByteArray := prog_1_method_48_code
def yX11_back : MethodName := ⟨RX11, "back", "()Z"⟩
abbrev cX11_count : ByteArray := prog_1_method_49_code
def yX11_count : MethodName := ⟨RX11, "count", "(I)I"⟩
abbrev cX11_needHour : ByteArray := prog_1_method_50_code
def yX11_needHour : MethodName := ⟨RX11, "needHour", "(I)V"⟩
abbrev cX11_needFamily : ByteArray := prog_1_method_51_code
def yX11_needFamily : MethodName := ⟨RX11, "needFamily", "(I)V"⟩
abbrev cX11_needThing : ByteArray := prog_1_method_52_code
def yX11_needThing : MethodName := ⟨RX11, "needThing", "(I)V"⟩
abbrev cX11_needWhat : ByteArray := prog_1_method_53_code
def yX11_needWhat : MethodName := ⟨RX11, "needWhat", "(II)V"⟩
abbrev cX11_needBetween : ByteArray := prog_1_method_54_code
def yX11_needBetween : MethodName := ⟨RX11, "needBetween", "(III)V"⟩
abbrev cX11_needOther : ByteArray := prog_1_method_55_code
def yX11_needOther : MethodName := ⟨RX11, "needOther", "(II)V"⟩
abbrev cX11_needThat : ByteArray := prog_1_method_56_code
def yX11_needThat : MethodName := ⟨RX11, "needThat", "(Z)V"⟩
abbrev cX11_tellsRisings : ByteArray := prog_1_method_57_code
def yX11_tellsRisings : MethodName := ⟨RX11, "tellsRisings", "()Z"⟩
abbrev cX11_suspects : ByteArray := prog_1_method_58_code
def yX11_suspects : MethodName := ⟨RX11, "suspects", "()I"⟩
abbrev cX11_rowsOfSuspects : ByteArray := prog_1_method_59_code
def yX11_rowsOfSuspects : MethodName := ⟨RX11, "rowsOfSuspects", "()I"⟩
def RX12 : String := "ClockSharesModel"
def TX12 : u_T := fun k => match k with
  | 0 => ("ClockSharesModel", "thrown", "I", false)
  | 1 => ("ClockSharesModel", "world", "[I", true)
  | 2 => ("ClockSharesModel", "image", "[I", true)
  | 3 => ("ClockSharesModel", "before", "[I", true)
  | 4 => ("ClockSharesModel", "trial", "[I", true)
  | 5 => ("ClockSharesModel", "acts", "[I", true)
  | 6 => ("ClockSharesModel", "hasImage", "Z", false)
  | 7 => ("ClockSharesModel", "remembered", "I", false)
  | 8 => ("ClockSharesModel", "tape", "[B", true)
  | 9 => ("ClockSharesModel", "taped", "I", false)
  | 10 => ("ClockSharesModel", "point", "I", false)
  | 11 => ("ClockSharesModel", "end", "I", false)
  | 12 => ("ClockSharesModel", "begin", "I", false)
  | 13 => ("ClockSharesModel", "deep", "I", false)
  | 14 => ("ClockSharesModel", "faultAt", "I", false)
  | 15 => ("ClockSharesModel", "five", "[I", true)
  | 16 => ("ClockSharesModel", "steps", "I", false)
  | 17 => ("ClockSharesModel", "value", "[I", true)
  | 18 => ("ClockSharesModel", "dealt", "[I", true)
  | 19 => ("ClockSharesModel", "got", "[I", true)
  | 20 => ("ClockSharesModel", "cameBy", "[I", true)
  | 21 => ("ClockSharesModel", "cameFrom", "[I", true)
  | _ => ("ClockSharesModel", "seen", "I", false)
def tyX12 : Nat → FieldType := fun k => match k with
  | 0 => .int
  | 1 => .array .int
  | 2 => .array .int
  | 3 => .array .int
  | 4 => .array .int
  | 5 => .array .int
  | 6 => .boolean
  | 7 => .int
  | 8 => .array .byte
  | 9 => .int
  | 10 => .int
  | 11 => .int
  | 12 => .int
  | 13 => .int
  | 14 => .int
  | 15 => .array .int
  | 16 => .int
  | 17 => .array .int
  | 18 => .array .int
  | 19 => .array .int
  | 20 => .array .int
  | 21 => .array .int
  | _ => .int
abbrev wsX120 : List Cond := u_ws RX12 TX12 23
theorem nmX12 : ∀ a, a < 23 → ∀ b, b < 23 → a ≠ b → (TX12 a).2.1 ≠ (TX12 b).2.1 := by decide +kernel
theorem tyX12_ok : ∀ k, k < 23 → parseFieldDescriptor (TX12 k).2.2.1 = some (tyX12 k) := by decide +kernel
abbrev cX12_throwsIf : ByteArray := prog_14_method_2_code
def yX12_throwsIf : MethodName := ⟨RX12, "throwsIf", "(ZI)Z"⟩
abbrev cX12_in : ByteArray := prog_14_method_3_code
def yX12_in : MethodName := ⟨RX12, "in", "(III)Z"⟩
abbrev cX12_has : ByteArray := prog_14_method_4_code
def yX12_has : MethodName := ⟨RX12, "has", "(II)Z"⟩
abbrev cX12_init : ByteArray := prog_14_method_5_code
def yX12_init : MethodName := ⟨RX12, "<init>", "()V"⟩
abbrev cX12_image : ByteArray := prog_14_method_6_code
def yX12_image : MethodName := ⟨RX12, "image", "()V"⟩
abbrev cX12_back : ByteArray := prog_14_method_7_code
def yX12_back : MethodName := ⟨RX12, "back", "()Z"⟩
abbrev cX12_remembers : ByteArray := prog_14_method_8_code
def yX12_remembers : MethodName := ⟨RX12, "remembers", "()V"⟩
abbrev cX12_undo : ByteArray := prog_14_method_9_code
def yX12_undo : MethodName := ⟨RX12, "undo", "()Z"⟩
abbrev cX12_families : ByteArray := prog_14_method_10_code
def yX12_families : MethodName := ⟨RX12, "families", "()I"⟩
abbrev cX12_things : ByteArray := prog_14_method_11_code
def yX12_things : MethodName := ⟨RX12, "things", "()I"⟩
abbrev cX12_holderOf : ByteArray := prog_14_method_12_code
def yX12_holderOf : MethodName := ⟨RX12, "holderOf", "(I)I"⟩
abbrev cX12_nextOf : ByteArray := prog_14_method_13_code
def yX12_nextOf : MethodName := ⟨RX12, "nextOf", "(I)I"⟩
abbrev cX12_inNow : ByteArray := prog_14_method_14_code
def yX12_inNow : MethodName := ⟨RX12, "inNow", "()I"⟩
abbrev cX12_at : ByteArray := prog_14_method_15_code
def yX12_at : MethodName := ⟨RX12, "at", "(II)I"⟩
abbrev cX12_of : ByteArray := prog_14_method_16_code
def yX12_of : MethodName := ⟨RX12, "of", "(II)I"⟩
abbrev cX12_wishes : ByteArray := prog_14_method_17_code
def yX12_wishes : MethodName := ⟨RX12, "wishes", "(II)Z"⟩
abbrev cX12_thingAt : ByteArray := prog_14_method_18_code
def yX12_thingAt : MethodName := ⟨RX12, "thingAt", "(II)I"⟩
abbrev cX12_ofThing : ByteArray := prog_14_method_19_code
def yX12_ofThing : MethodName := ⟨RX12, "ofThing", "(II)I"⟩
abbrev cX12_isLeft : ByteArray := prog_14_method_20_code
def yX12_isLeft : MethodName := ⟨RX12, "isLeft", "(I)Z"⟩
abbrev cX12_noFamily : ByteArray := prog_14_method_21_code
def yX12_noFamily : MethodName := ⟨RX12, "noFamily", "(I)Z"⟩
abbrev cX12_noThing : ByteArray := prog_14_method_22_code
def yX12_noThing : MethodName := ⟨RX12, "noThing", "(I)Z"⟩
abbrev cX12_noHour : ByteArray := prog_14_method_23_code
def yX12_noHour : MethodName := ⟨RX12, "noHour", "(I)Z"⟩
abbrev cX12_drawn : ByteArray := prog_14_method_24_code
def yX12_drawn : MethodName := ⟨RX12, "drawn", "(I)I"⟩
abbrev cX12_feed : ByteArray := prog_14_method_25_code
def yX12_feed : MethodName := ⟨RX12, "feed", "(IIIII)I"⟩
abbrev cX12_end : ByteArray := prog_14_method_26_code
def yX12_end : MethodName := ⟨RX12, "end", "(I)Z"⟩
abbrev cX12_isAt : ByteArray := prog_14_method_27_code
def yX12_isAt : MethodName := ⟨RX12, "isAt", "(II)Z"⟩
abbrev cX12_blanks : ByteArray := prog_14_method_28_code
def yX12_blanks : MethodName := ⟨RX12, "blanks", "()V"⟩
abbrev cX12_letters : ByteArray := prog_14_method_29_code
def yX12_letters : MethodName := ⟨RX12, "letters", "()V"⟩
abbrev cX12_isWord : ByteArray := prog_14_method_30_code
def yX12_isWord : MethodName := ⟨RX12, "isWord", "(Ljava/lang/String;)Z"⟩
abbrev cX12_passes : ByteArray := prog_14_method_31_code
def yX12_passes : MethodName := ⟨RX12, "passes", "(Ljava/lang/String;)Z"⟩
abbrev cX12_sign : ByteArray := prog_14_method_32_code
def yX12_sign : MethodName := ⟨RX12, "sign", "(I)Z"⟩
abbrev cX12_number : ByteArray := prog_14_method_33_code
def yX12_number : MethodName := ⟨RX12, "number", "(II)I"⟩
abbrev cX12_after : ByteArray := prog_14_method_34_code
def yX12_after : MethodName := ⟨RX12, "after", "(Ljava/lang/String;II)I"⟩
abbrev cX12_fault : ByteArray := prog_14_method_35_code
def yX12_fault : MethodName := ⟨RX12, "fault", "()I"⟩
abbrev cX12_uses : ByteArray := prog_14_method_36_code
def yX12_uses : MethodName := ⟨RX12, "uses", "()V"⟩
abbrev cX12_readNumber : ByteArray := prog_14_method_37_code
def yX12_readNumber : MethodName := ⟨RX12, "readNumber", "(III)Z"⟩
abbrev cX12_hoursTold : ByteArray := prog_14_method_38_code
def yX12_hoursTold : MethodName := ⟨RX12, "hoursTold", "()I"⟩
abbrev cX12_gives : ByteArray := prog_14_method_39_code
def yX12_gives : MethodName := ⟨RX12, "gives", "(II)V"⟩
abbrev cX12_readFamily : ByteArray := prog_14_method_40_code
def yX12_readFamily : MethodName := ⟨RX12, "readFamily", "()Z"⟩
abbrev cX12_familyTold : ByteArray := prog_14_method_41_code
def yX12_familyTold : MethodName := ⟨RX12, "familyTold", "()I"⟩
abbrev cX12_readHours : ByteArray := prog_14_method_42_code
def yX12_readHours : MethodName := ⟨RX12, "readHours", "()Z"⟩
abbrev cX12_readFree : ByteArray := prog_14_method_43_code
def yX12_readFree : MethodName := ⟨RX12, "readFree", "()Z"⟩
abbrev cX12_readWishes : ByteArray := prog_14_method_44_code
def yX12_readWishes : MethodName := ⟨RX12, "readWishes", "()Z"⟩
abbrev cX12_readThing : ByteArray := prog_14_method_45_code
def yX12_readThing : MethodName := ⟨RX12, "readThing", "()Z"⟩
abbrev cX12_readDeedLine : ByteArray := prog_14_method_46_code
def yX12_readDeedLine : MethodName := ⟨RX12, "readDeedLine", "()Z"⟩
abbrev cX12_emits : ByteArray := prog_14_method_47_code
def yX12_emits : MethodName := ⟨RX12, "emits", "(II)V"⟩
abbrev cX12_readPart : ByteArray := prog_14_method_48_code
def yX12_readPart : MethodName := ⟨RX12, "readPart", "()Z"⟩
abbrev cX12_readSum : ByteArray := prog_14_method_49_code
def yX12_readSum : MethodName := ⟨RX12, "readSum", "()Z"⟩
abbrev cX12_readTag : ByteArray := prog_14_method_50_code
def yX12_readTag : MethodName := ⟨RX12, "readTag", "()Z"⟩
abbrev cX12_readAtom : ByteArray := prog_14_method_51_code
def yX12_readAtom : MethodName := ⟨RX12, "readAtom", "()Z"⟩
abbrev cX12_readAllOf : ByteArray := prog_14_method_52_code
def yX12_readAllOf : MethodName := ⟨RX12, "readAllOf", "()Z"⟩
abbrev cX12_readCond : ByteArray := prog_14_method_53_code
def yX12_readCond : MethodName := ⟨RX12, "readCond", "()Z"⟩
abbrev cX12_readLawLine : ByteArray := prog_14_method_54_code
def yX12_readLawLine : MethodName := ⟨RX12, "readLawLine", "(I)Z"⟩
abbrev cX12_readLine : ByteArray := prog_14_method_55_code
def yX12_readLine : MethodName := ⟨RX12, "readLine", "(ZI)Z"⟩
abbrev cX12_readAll : ByteArray := prog_14_method_56_code
def yX12_readAll : MethodName := ⟨RX12, "readAll", "(Z)I"⟩
abbrev cX12_deed : ByteArray := prog_14_method_57_code
def yX12_deed : MethodName := ⟨RX12, "deed", "()I"⟩
abbrev cX12_law : ByteArray := prog_14_method_58_code
def yX12_law : MethodName := ⟨RX12, "law", "()I"⟩
abbrev cX12_leftOnes : ByteArray := prog_14_method_59_code
def yX12_leftOnes : MethodName := ⟨RX12, "leftOnes", "()I"⟩
abbrev cX12_bulkOf : ByteArray := prog_14_method_60_code
def yX12_bulkOf : MethodName := ⟨RX12, "bulkOf", "(I)I"⟩
abbrev cX12_isNight : ByteArray := prog_14_method_61_code
def yX12_isNight : MethodName := ⟨RX12, "isNight", "(I)Z"⟩
abbrev cX12_factOf : ByteArray := prog_14_method_62_code
def yX12_factOf : MethodName := ⟨RX12, "factOf", "(IIII)I"⟩
abbrev cX12_holdsLine : ByteArray := prog_14_method_63_code
def yX12_holdsLine : MethodName := ⟨RX12, "holdsLine", "(III)Z"⟩
abbrev cX12_sumOf : ByteArray := prog_14_method_64_code
def yX12_sumOf : MethodName := ⟨RX12, "sumOf", "(III)I"⟩
abbrev cX12_warmsBy : ByteArray := prog_14_method_65_code
def yX12_warmsBy : MethodName := ⟨RX12, "warmsBy", "(II)I"⟩
abbrev cX12_dustsBy : ByteArray := prog_14_method_66_code
def yX12_dustsBy : MethodName := ⟨RX12, "dustsBy", "(II)I"⟩
abbrev cX12_finedBy : ByteArray := prog_14_method_67_code
def yX12_finedBy : MethodName := ⟨RX12, "finedBy", "(I)I"⟩
abbrev cX12_hoursOf : ByteArray := prog_14_method_68_code
def yX12_hoursOf : MethodName := ⟨RX12, "hoursOf", "(I)I"⟩
abbrev cX12_shareOf : ByteArray := prog_14_method_69_code
def yX12_shareOf : MethodName := ⟨RX12, "shareOf", "(I)I"⟩
abbrev cX12_gladOf : ByteArray := prog_14_method_70_code
def yX12_gladOf : MethodName := ⟨RX12, "gladOf", "(I)I"⟩
abbrev cX12_rowFrom : ByteArray := prog_14_method_71_code
def yX12_rowFrom : MethodName := ⟨RX12, "rowFrom", "(II)I"⟩
abbrev cX12_longestOf : ByteArray := prog_14_method_72_code
def yX12_longestOf : MethodName := ⟨RX12, "longestOf", "(I)I"⟩
abbrev cX12_comesIn : ByteArray := prog_14_method_73_code
def yX12_comesIn : MethodName := ⟨RX12, "comesIn", "(I)I"⟩
abbrev cX12_holds : ByteArray := prog_14_method_74_code
def yX12_holds : MethodName := ⟨RX12, "holds", "(I)I"⟩
abbrev cX12_family : ByteArray := prog_14_method_75_code
def yX12_family : MethodName := ⟨RX12, "family", "(II)I"⟩
abbrev cX12_does : ByteArray := prog_14_method_76_code
def yX12_does : MethodName := ⟨RX12, "does", "(III)I"⟩
abbrev cX12_thing : ByteArray := prog_14_method_77_code
def yX12_thing : MethodName := ⟨RX12, "thing", "(II)I"⟩
abbrev cX12_sell : ByteArray := prog_14_method_78_code
def yX12_sell : MethodName := ⟨RX12, "sell", "(II)I"⟩
abbrev cX12_buy : ByteArray := prog_14_method_79_code
def yX12_buy : MethodName := ⟨RX12, "buy", "(II)I"⟩
abbrev cX12_exchanges : ByteArray := prog_14_method_80_code
def yX12_exchanges : MethodName := ⟨RX12, "exchanges", "(II)V"⟩
abbrev cX12_swap : ByteArray := prog_14_method_81_code
def yX12_swap : MethodName := ⟨RX12, "swap", "(II)I"⟩
abbrev cX12_free : ByteArray := prog_14_method_82_code
def yX12_free : MethodName := ⟨RX12, "free", "(I)I"⟩
abbrev cX12_isLaid : ByteArray := prog_14_method_83_code
def yX12_isLaid : MethodName := ⟨RX12, "isLaid", "(II)I"⟩
abbrev cX12_leave : ByteArray := prog_14_method_84_code
def yX12_leave : MethodName := ⟨RX12, "leave", "(I)I"⟩
abbrev cX12_fetch : ByteArray := prog_14_method_85_code
def yX12_fetch : MethodName := ⟨RX12, "fetch", "(I)I"⟩
abbrev cX12_quiet : ByteArray := prog_14_method_86_code
def yX12_quiet : MethodName := ⟨RX12, "quiet", "()I"⟩
abbrev cX12_dust : ByteArray := prog_14_method_87_code
def yX12_dust : MethodName := ⟨RX12, "dust", "()I"⟩
abbrev cX12_tells : ByteArray := prog_14_method_88_code
def yX12_tells : MethodName := ⟨RX12, "tells", "(III)V"⟩
abbrev cX12_visits : ByteArray := prog_14_method_89_code
def yX12_visits : MethodName := ⟨RX12, "visits", "(I)V"⟩
abbrev cX12_goesOut : ByteArray := prog_14_method_90_code
def yX12_goesOut : MethodName := ⟨RX12, "goesOut", "(I)I"⟩
abbrev cX12_oneHour : ByteArray := prog_14_method_91_code
def yX12_oneHour : MethodName := ⟨RX12, "oneHour", "(Z)I"⟩
abbrev cX12_keepsAll : ByteArray := prog_14_method_92_code
def yX12_keepsAll : MethodName := ⟨RX12, "keepsAll", "()V"⟩
abbrev cX12_bringsBack : ByteArray := prog_14_method_93_code
def yX12_bringsBack : MethodName := ⟨RX12, "bringsBack", "()V"⟩
abbrev cX12_goesOn : ByteArray := prog_14_method_94_code
def yX12_goesOn : MethodName := ⟨RX12, "goesOn", "(IZ)I"⟩
abbrev cX12_hours : ByteArray := prog_14_method_95_code
def yX12_hours : MethodName := ⟨RX12, "hours", "(I)I"⟩
abbrev cX12_ahead : ByteArray := prog_14_method_96_code
def yX12_ahead : MethodName := ⟨RX12, "ahead", "(II)I"⟩
abbrev cX12_dusty : ByteArray := prog_14_method_97_code
def yX12_dusty : MethodName := ⟨RX12, "dusty", "(I)I"⟩
abbrev cX12_warmest : ByteArray := prog_14_method_98_code
def yX12_warmest : MethodName := ⟨RX12, "warmest", "(I)I"⟩
abbrev cX12_ruin : ByteArray := prog_14_method_99_code
def yX12_ruin : MethodName := ⟨RX12, "ruin", "(I)I"⟩
abbrev cX12_changes : ByteArray := prog_14_method_100_code
def yX12_changes : MethodName := ⟨RX12, "changes", "()I"⟩
abbrev cX12_meets : ByteArray := prog_14_method_101_code
def yX12_meets : MethodName := ⟨RX12, "meets", "(III)Z"⟩
abbrev cX12_metBy : ByteArray := prog_14_method_102_code
def yX12_metBy : MethodName := ⟨RX12, "metBy", "(II)I"⟩
abbrev cX12_met : ByteArray := prog_14_method_103_code
def yX12_met : MethodName := ⟨RX12, "met", "(II)I"⟩
abbrev cX12_lovers : ByteArray := prog_14_method_104_code
def yX12_lovers : MethodName := ⟨RX12, "lovers", "()I"⟩
abbrev cX12_gaps : ByteArray := prog_14_method_105_code
def yX12_gaps : MethodName := ⟨RX12, "gaps", "()I"⟩
abbrev cX12_widows : ByteArray := prog_14_method_106_code
def yX12_widows : MethodName := ⟨RX12, "widows", "()I"⟩
abbrev cX12_fewest : ByteArray := prog_14_method_107_code
def yX12_fewest : MethodName := ⟨RX12, "fewest", "()I"⟩
abbrev cX12_parts : ByteArray := prog_14_method_108_code
def yX12_parts : MethodName := ⟨RX12, "parts", "(I)I"⟩
abbrev cX12_corner : ByteArray := prog_14_method_109_code
def yX12_corner : MethodName := ⟨RX12, "corner", "(I)I"⟩
abbrev cX12_lesson : ByteArray := prog_14_method_110_code
def yX12_lesson : MethodName := ⟨RX12, "lesson", "(I)I"⟩
abbrev cX12_looksFor : ByteArray := prog_14_method_111_code
def yX12_looksFor : MethodName := ⟨RX12, "looksFor", "(II)I"⟩
abbrev cX12_findsRoom : ByteArray := prog_14_method_112_code
def yX12_findsRoom : MethodName := ⟨RX12, "findsRoom", "(I)I"⟩
abbrev cX12_isDealt : ByteArray := prog_14_method_113_code
def yX12_isDealt : MethodName := ⟨RX12, "isDealt", "(I)Z"⟩
abbrev cX12_deal : ByteArray := prog_14_method_114_code
def yX12_deal : MethodName := ⟨RX12, "deal", "()I"⟩
abbrev cX12_gladder : ByteArray := prog_14_method_115_code
def yX12_gladder : MethodName := ⟨RX12, "gladder", "(III)I"⟩
abbrev cX12_trade : ByteArray := prog_14_method_116_code
def yX12_trade : MethodName := ⟨RX12, "trade", "()I"⟩
abbrev cX12_worthOf : ByteArray := prog_14_method_117_code
def yX12_worthOf : MethodName := ⟨RX12, "worthOf", "(I)I"⟩
abbrev cX12_everybody : ByteArray := prog_14_method_118_code
def yX12_everybody : MethodName := ⟨RX12, "everybody", "()I"⟩
abbrev cX12_worth : ByteArray := prog_14_method_119_code
def yX12_worth : MethodName := ⟨RX12, "worth", "(I)I"⟩
abbrev cX12_ordersOf : ByteArray := prog_14_method_120_code
def yX12_ordersOf : MethodName := ⟨RX12, "ordersOf", "(I)I"⟩
abbrev cX12_part : ByteArray := prog_14_method_121_code
def yX12_part : MethodName := ⟨RX12, "part", "(II)I"⟩
abbrev cX12_hasBy : ByteArray := prog_14_method_122_code
def yX12_hasBy : MethodName := ⟨RX12, "hasBy", "(IIII)I"⟩
abbrev cX12_bids : ByteArray := prog_14_method_123_code
def yX12_bids : MethodName := ⟨RX12, "bids", "(III)I"⟩
abbrev cX12_familiesOf : ByteArray := prog_14_method_124_code
def yX12_familiesOf : MethodName := ⟨RX12, "familiesOf", "(I)I"⟩
abbrev cX12_who : ByteArray := prog_14_method_125_code
def yX12_who : MethodName := ⟨RX12, "who", "(Z)I"⟩
abbrev cX12_common : ByteArray := prog_14_method_126_code
def yX12_common : MethodName := ⟨RX12, "common", "()I"⟩
abbrev cX12_rich : ByteArray := prog_14_method_127_code
def yX12_rich : MethodName := ⟨RX12, "rich", "()I"⟩
abbrev cX12_cramped : ByteArray := prog_14_method_128_code
def yX12_cramped : MethodName := ⟨RX12, "cramped", "()I"⟩
abbrev cX12_pursesOfAll : ByteArray := prog_14_method_129_code
def yX12_pursesOfAll : MethodName := ⟨RX12, "pursesOfAll", "()I"⟩
abbrev cX12_trial : ByteArray := prog_14_method_130_code
def yX12_trial : MethodName := ⟨RX12, "trial", "(IZ)I"⟩
abbrev cX12_span : ByteArray := prog_14_method_131_code
def yX12_span : MethodName := ⟨RX12, "span", "(IZ)I"⟩
abbrev cX12_ofLog : ByteArray := prog_14_method_132_code
def yX12_ofLog : MethodName := ⟨RX12, "ofLog", "(II)I"⟩
abbrev cX12_led : ByteArray := prog_14_method_133_code
def yX12_led : MethodName := ⟨RX12, "led", "(IZ)I"⟩
abbrev cX12_log : ByteArray := prog_14_method_134_code
def yX12_log : MethodName := ⟨RX12, "log", "(II)I"⟩
abbrev cX12_seed : ByteArray := prog_14_method_135_code
def yX12_seed : MethodName := ⟨RX12, "seed", "(I)I"⟩
abbrev cX12_count : ByteArray := prog_14_method_136_code
def yX12_count : MethodName := ⟨RX12, "count", "(I)I"⟩
def RJx145de : String := "java/io/Serializable"
def RJx9f9b0 : String := "java/lang/CharSequence"
def RJx8e188 : String := "java/lang/Cloneable"
def RJxb160c : String := "java/lang/Comparable"
def RJ6 : String := "java/lang/Integer"
abbrev cJ6_bitCount_0f7a4 : ByteArray := prog_23_method_49_code
def yJ6_bitCount_0f7a4 : MethodName := ⟨RJ6, "bitCount", "(I)I"⟩
def RJ9 : String := "java/lang/Math"
abbrev cJ9_floorMod_7cf53 : ByteArray := prog_24_method_50_code
def yJ9_floorMod_7cf53 : MethodName := ⟨RJ9, "floorMod", "(II)I"⟩
abbrev cJ9_max_7cf53 : ByteArray := prog_24_method_65_code
def yJ9_max_7cf53 : MethodName := ⟨RJ9, "max", "(II)I"⟩
abbrev cJ9_min_7cf53 : ByteArray := prog_24_method_69_code
def yJ9_min_7cf53 : MethodName := ⟨RJ9, "min", "(II)I"⟩
def RJ0 : String := "java/lang/String"
abbrev cJ0_length_8abf5 : ByteArray := prog_26_method_54_code
def yJ0_length_8abf5 : MethodName := ⟨RJ0, "length", "()I"⟩
abbrev cJ0_charAt_5068e : ByteArray := prog_26_method_56_code
def yJ0_charAt_5068e : MethodName := ⟨RJ0, "charAt", "(I)C"⟩
abbrev cJ0_coder_7d493 : ByteArray := prog_26_method_152_code
def yJ0_coder_7d493 : MethodName := ⟨RJ0, "coder", "()B"⟩
abbrev cJ0_isLatin1_aae02 : ByteArray := prog_26_method_154_code
def yJ0_isLatin1_aae02 : MethodName := ⟨RJ0, "isLatin1", "()Z"⟩
abbrev cJ0_checkIndex_df160 : ByteArray := prog_26_method_155_code
def yJ0_checkIndex_df160 : MethodName := ⟨RJ0, "checkIndex", "(II)V"⟩
def RJ1 : String := "java/lang/StringLatin1"
abbrev cJ1_charAt_3b067 : ByteArray := prog_27_method_2_code
def yJ1_charAt_3b067 : MethodName := ⟨RJ1, "charAt", "([BI)C"⟩
def RJ2 : String := "java/lang/StringUTF16"
abbrev cJ2_getChar_3b067 : ByteArray := prog_28_method_5_code
def yJ2_getChar_3b067 : MethodName := ⟨RJ2, "getChar", "([BI)C"⟩
abbrev cJ2_length_9d52b : ByteArray := prog_28_method_6_code
def yJ2_length_9d52b : MethodName := ⟨RJ2, "length", "([B)I"⟩
abbrev cJ2_charAt_3b067 : ByteArray := prog_28_method_83_code
def yJ2_charAt_3b067 : MethodName := ⟨RJ2, "charAt", "([BI)C"⟩
abbrev cJ2_checkIndex_2214a : ByteArray := prog_28_method_91_code
def yJ2_checkIndex_2214a : MethodName := ⟨RJ2, "checkIndex", "(I[B)V"⟩
def RJ10 : String := "java/lang/System"
def RJxfd54e : String := "java/lang/constant/Constable"
def RJx3cf43 : String := "java/lang/constant/ConstantDesc"
def RJ7 : String := "java/util/Arrays"
abbrev cJ7_fill_53178 : ByteArray := prog_34_method_103_code
def yJ7_fill_53178 : MethodName := ⟨RJ7, "fill", "([II)V"⟩
abbrev cJ7_copyOf_59c91 : ByteArray := prog_34_method_123_code
def yJ7_copyOf_59c91 : MethodName := ⟨RJ7, "copyOf", "([II)[I"⟩
def RJ3 : String := "jdk/internal/util/Preconditions"
abbrev cJ3_checkIndex_8e157 : ByteArray := prog_36_method_11_code
def yJ3_checkIndex_8e157 : MethodName := ⟨RJ3, "checkIndex", "(IILjava/util/function/BiFunction;)I"⟩
def RL : String := "ClockSharesLaw"
abbrev cL_deed : ByteArray := method_3_code
def yL_deed : MethodName := ⟨RL, "deed", "(LClockShares;[J)I"⟩
abbrev cL_law : ByteArray := method_4_code
def yL_law : MethodName := ⟨RL, "law", "(LClockShares;[J)I"⟩
abbrev cL_holds : ByteArray := method_5_code
def yL_holds : MethodName := ⟨RL, "holds", "(LClockShares;I[J)I"⟩
abbrev cL_family : ByteArray := method_6_code
def yL_family : MethodName := ⟨RL, "family", "(LClockShares;II[J)I"⟩
abbrev cL_does : ByteArray := method_7_code
def yL_does : MethodName := ⟨RL, "does", "(LClockShares;III[J)I"⟩
abbrev cL_thing : ByteArray := method_8_code
def yL_thing : MethodName := ⟨RL, "thing", "(LClockShares;II[J)I"⟩
abbrev cL_sell : ByteArray := method_9_code
def yL_sell : MethodName := ⟨RL, "sell", "(LClockShares;II[J)I"⟩
abbrev cL_buy : ByteArray := method_10_code
def yL_buy : MethodName := ⟨RL, "buy", "(LClockShares;II[J)I"⟩
abbrev cL_swap : ByteArray := method_11_code
def yL_swap : MethodName := ⟨RL, "swap", "(LClockShares;II[J)I"⟩
abbrev cL_free : ByteArray := method_12_code
def yL_free : MethodName := ⟨RL, "free", "(LClockShares;I[J)I"⟩
abbrev cL_leave : ByteArray := method_13_code
def yL_leave : MethodName := ⟨RL, "leave", "(LClockShares;I[J)I"⟩
abbrev cL_fetch : ByteArray := method_14_code
def yL_fetch : MethodName := ⟨RL, "fetch", "(LClockShares;I[J)I"⟩
abbrev cL_quiet : ByteArray := method_15_code
def yL_quiet : MethodName := ⟨RL, "quiet", "(LClockShares;[J)I"⟩
abbrev cL_hours : ByteArray := method_16_code
def yL_hours : MethodName := ⟨RL, "hours", "(LClockShares;I[J)I"⟩
abbrev cL_met : ByteArray := method_17_code
def yL_met : MethodName := ⟨RL, "met", "(LClockShares;II[J)I"⟩
abbrev cL_part : ByteArray := method_18_code
def yL_part : MethodName := ⟨RL, "part", "(LClockShares;II[J)I"⟩
abbrev cL_corner : ByteArray := method_19_code
def yL_corner : MethodName := ⟨RL, "corner", "(LClockShares;I[J)I"⟩
abbrev cL_bids : ByteArray := method_20_code
def yL_bids : MethodName := ⟨RL, "bids", "(LClockShares;III[J)I"⟩
abbrev cL_who : ByteArray := method_21_code
def yL_who : MethodName := ⟨RL, "who", "(LClockShares;Z[J)I"⟩
abbrev cL_lesson : ByteArray := method_22_code
def yL_lesson : MethodName := ⟨RL, "lesson", "(LClockShares;I[J)I"⟩
abbrev cL_ahead : ByteArray := method_23_code
def yL_ahead : MethodName := ⟨RL, "ahead", "(LClockShares;II[J)I"⟩
abbrev cL_dusty : ByteArray := method_24_code
def yL_dusty : MethodName := ⟨RL, "dusty", "(LClockShares;I[J)I"⟩
abbrev cL_warmest : ByteArray := method_25_code
def yL_warmest : MethodName := ⟨RL, "warmest", "(LClockShares;I[J)I"⟩
abbrev cL_ruin : ByteArray := method_26_code
def yL_ruin : MethodName := ⟨RL, "ruin", "(LClockShares;I[J)I"⟩
abbrev cL_trial : ByteArray := method_27_code
def yL_trial : MethodName := ⟨RL, "trial", "(LClockShares;IZ[J)I"⟩
abbrev cL_span : ByteArray := method_28_code
def yL_span : MethodName := ⟨RL, "span", "(LClockShares;IZ[J)I"⟩
abbrev cL_led : ByteArray := method_29_code
def yL_led : MethodName := ⟨RL, "led", "(LClockShares;IZ[J)I"⟩
abbrev cL_log : ByteArray := method_30_code
def yL_log : MethodName := ⟨RL, "log", "(LClockShares;II[J)I"⟩
abbrev cL_law_ : ByteArray := code
def yL_law_ : MethodName := ⟨RL, "law", "([I)Z"⟩
abbrev vwCl : List vw_C := [(RX1, TX1, 5), (RX2, TX2, 18), (RX3, TX3, 6), (RX4, TX4, 6), (RX5, TX5, 3), (RX6, TX6, 3), (RX8, TX8, 4), (RX9, TX9, 4), (RX11, TX11, 8), (RX12, TX12, 23)]
end
section
/-! THE ABSTRACT MACHINE: cells by their numbers, values as the machine's, references as numbers of cells (below zB), of texts (zB + k), the script (zS) -/
abbrev zE : Type := (Nat × vp_A) ⊕ (Nat × List Value)
abbrev zH : Type := List zE
abbrev zL : Type := List (Nat × Value)
abbrev zI : Type := Nat × Nat × Nat × Int
abbrev zO : Type := Option Value ⊕ Nat
abbrev zX : Type := Nat × (Nat → Int32)
abbrev zN : Type := Nat × zL × List Value × zH × Nat × Nat
abbrev zR : Type := zN ⊕ ((zO × Nat × Nat) ⊕ (Nat × List Value × List Value))
abbrev zOp : Type := zX → Nat → Nat → Nat → Int → Nat → zL → List Value → zH → Option zR
def zB : Nat := 1048576
def zS : Nat := 2097152
def z_tr (ad : Nat → Nat) (v : Value) : Value := match v with
  | .ref i => .ref (ad i)
  | v => v
def z_trA (ad : Nat → Nat) (a : vp_A) : vp_A := match a with
  | (n, .inr (.inr (.inr (.inr f)))) => (n, .inr (.inr (.inr (.inr (fun j => (f j).map ad)))))
  | a => a
def z_trE (ad : Nat → Nat) (tc : Nat → ClassId) (e : zE) : va_E := match e with
  | .inl (t, a) => .inl (tc t, z_trA ad a)
  | .inr (c, fs) => .inr (c, fs.map (z_tr ad))
def z_ws (ad : Nat → Nat) (tc : Nat → ClassId) (h : zH) : va_W := h.mapIdx (fun i e => (ad i, z_trE ad tc e))
def z_okV (n : Nat) (v : Value) : Prop := ∀ i, v = .ref i → i < n ∨ zB ≤ i
def z_okE (n : Nat) (e : zE) : Prop := match e with
  | .inl (_, (_, .inr (.inr (.inr (.inr f))))) => ∀ j i, f j = some i → i < n
  | .inl _ => True
  | .inr (_, fs) => ∀ v ∈ fs, z_okV n v
/-- the abstract heap h, its cells at ad, is what the machine's heap H holds at and above Z -/
def z_R (Z : Nat) (D : va_G) (tc : Nat → ClassId) (ad : Nat → Nat) (h : zH) (H : Heap) : Prop :=
  va_P D vwCl (z_ws ad tc h) H ∧ va_D (fun q => Z ≤ q) (z_ws ad tc h) ∧ (∀ e ∈ h, z_okE h.length e) ∧ h.length ≤ zB
def z_up (ad : Nat → Nat) (n q : Nat) : Nat → Nat := fun i => if i = n then q else ad i
def z_ag (n : Nat) (ad ad' : Nat → Nat) : Prop := ∀ i, (i < n ∨ zB ≤ i) → ad' i = ad i
theorem z_ag.rf {n : Nat} {ad : Nat → Nat} : z_ag n ad ad := fun _ _ => rfl
theorem z_ag.trans {n m : Nat} {a b c : Nat → Nat} (h1 : z_ag n a b) (h2 : z_ag m b c) (hn : n ≤ m) : z_ag n a c := fun i hi => by
  rw [h2 i (by omega), h1 i hi]
theorem z_up.ag {ad : Nat → Nat} {n q : Nat} (hn : n < zB) : z_ag n ad (z_up ad n q) := fun i hi => by
  unfold z_up
  rw [if_neg (by omega)]
theorem z_tr_int (ad : Nat → Nat) (x : Int32) : z_tr ad (.int x) = .int x := rfl
theorem z_tr_long (ad : Nat → Nat) (x : Int64) : z_tr ad (.long x) = .long x := rfl
theorem z_tr_ref (ad : Nat → Nat) (i : Nat) : z_tr ad (.ref i) = .ref (ad i) := rfl
theorem z_tr_null (ad : Nat → Nat) : z_tr ad .null = .null := rfl
theorem z_tr_cat (ad : Nat → Nat) (v : Value) : (z_tr ad v).category = v.category := by
  cases v <;> rfl
theorem z_tr_ag {n : Nat} {ad ad' : Nat → Nat} (h : z_ag n ad ad') {v : Value} (hv : z_okV n v) : z_tr ad' v = z_tr ad v := by
  cases v with
  | ref i => rw [z_tr_ref, z_tr_ref, h i (hv i rfl)]
  | _ => rfl
theorem z_okV.mono {n m : Nat} {v : Value} (h : z_okV n v) (hnm : n ≤ m) : z_okV m v := fun i hi => (h i hi).imp (fun q => Nat.lt_of_lt_of_le q hnm) id
theorem z_okV_int (n : Nat) (x : Int32) : z_okV n (.int x) := fun i h => by cases h
theorem z_okV_long (n : Nat) (x : Int64) : z_okV n (.long x) := fun i h => by cases h
theorem z_okV_null (n : Nat) : z_okV n .null := fun i h => by cases h
theorem z_okE.mono {n m : Nat} {e : zE} (h : z_okE n e) (hnm : n ≤ m) : z_okE m e := by
  obtain ⟨t, a, f | f | f | f | f⟩ | ⟨c, fs⟩ := e
  · trivial
  · trivial
  · trivial
  · trivial
  · exact fun j i hj => Nat.lt_of_lt_of_le (h j i hj) hnm
  · exact fun v hv => (h v hv).mono hnm
theorem z_trE_ag {n : Nat} {ad ad' : Nat → Nat} {tc : Nat → ClassId} (h : z_ag n ad ad') {e : zE} (he : z_okE n e) : z_trE ad' tc e = z_trE ad tc e := by
  obtain ⟨t, a, f | f | f | f | f⟩ | ⟨c, fs⟩ := e
  · rfl
  · rfl
  · rfl
  · rfl
  · show Sum.inl _ = Sum.inl _
    simp only [z_trA]
    refine congrArg Sum.inl (congrArg (Prod.mk _) (congrArg (Prod.mk _) (congrArg Sum.inr (congrArg Sum.inr (congrArg Sum.inr (congrArg Sum.inr (funext fun j => ?_)))))))
    cases hf : f j with
    | none => rfl
    | some i => simp only [Option.map_some]; rw [h i (Or.inl (he j i hf))]
  · show Sum.inr (c, _) = Sum.inr (c, _)
    rw [List.map_congr_left fun v hv => z_tr_ag h (he v hv)]
theorem z_ws_len (ad : Nat → Nat) (tc : Nat → ClassId) (h : zH) : (z_ws ad tc h).length = h.length := by simp [z_ws]
theorem z_ws_get {ad : Nat → Nat} {tc : Nat → ClassId} {h : zH} {i : Nat} {e : zE} (he : h[i]? = some e) : (z_ws ad tc h)[i]? = some (ad i, z_trE ad tc e) := by
  simp [z_ws, he]
theorem z_ws_set {ad : Nat → Nat} {tc : Nat → ClassId} {h : zH} {i : Nat} {e : zE} : (z_ws ad tc h).set i (ad i, z_trE ad tc e) = z_ws ad tc (h.set i e) := by
  apply List.ext_getElem?
  intro k
  by_cases hk : k = i
  · subst hk
    by_cases hl : k < h.length
    · rw [List.getElem?_set_self (by rw [z_ws_len]; exact hl), z_ws_get (e := e) (by rw [List.getElem?_set_self hl])]
    · have h1 : ((z_ws ad tc h).set k (ad k, z_trE ad tc e)).length ≤ k := by rw [List.length_set, z_ws_len]; omega
      have h2 : (z_ws ad tc (h.set k e)).length ≤ k := by rw [z_ws_len, List.length_set]; omega
      rw [List.getElem?_eq_none h1, List.getElem?_eq_none h2]
  · rw [List.getElem?_set_ne (fun q => hk q.symm)]
    simp [z_ws, List.getElem?_set_ne (fun q => hk q.symm)]
theorem z_ws_push {ad : Nat → Nat} {tc : Nat → ClassId} {h : zH} {q : Nat} {e : zE} (hok : ∀ e ∈ h, z_okE h.length e) (hn : h.length < zB) (hx : ∀ a b : Nat → Nat, z_trE a tc e = z_trE b tc e) : z_ws ad tc h ++ [(q, z_trE ad tc e)] = z_ws (z_up ad h.length q) tc (h ++ [e]) := by
  apply List.ext_getElem?
  intro k
  rcases Nat.lt_trichotomy k h.length with hl | hl | hl
  · rw [List.getElem?_append_left (by rw [z_ws_len]; exact hl)]
    have he : h[k]? = some h[k] := List.getElem?_eq_getElem hl
    rw [z_ws_get he, z_ws_get (e := h[k]) (by rw [List.getElem?_append_left hl]; exact he), z_trE_ag (z_up.ag hn) (hok _ (List.getElem_mem hl)), z_up.ag hn k (Or.inl hl)]
  · subst hl
    rw [List.getElem?_append_right (by rw [z_ws_len]; exact Nat.le_refl _), z_ws_len, Nat.sub_self, z_ws_get (e := e) (by simp)]
    simp only [List.getElem?_cons_zero, z_up, if_true]
    rw [hx ad]
  · have h1 : (z_ws ad tc h ++ [(q, z_trE ad tc e)]).length ≤ k := by rw [List.length_append, z_ws_len, List.length_singleton]; omega
    have h2 : (z_ws (z_up ad h.length q) tc (h ++ [e])).length ≤ k := by rw [z_ws_len, List.length_append, List.length_singleton]; omega
    rw [List.getElem?_eq_none h1, List.getElem?_eq_none h2]
theorem z_R.set {Z : Nat} {D : va_G} {tc : Nat → ClassId} {ad : Nat → Nat} {h : zH} {H H1 : Heap} {i : Nat} {e : zE} (hR : z_R Z D tc ad h H) (hP : va_P D vwCl ((z_ws ad tc h).set i (ad i, z_trE ad tc e)) H1) (hD : va_D (fun q => Z ≤ q) ((z_ws ad tc h).set i (ad i, z_trE ad tc e))) (he : z_okE h.length e) : z_R Z D tc ad (h.set i e) H1 := by
  rw [z_ws_set] at hP hD
  refine ⟨hP, hD, fun x hx => ?_, by rw [List.length_set]; exact hR.2.2.2⟩
  rw [List.length_set]
  rcases List.mem_or_eq_of_mem_set hx with q | q
  · exact hR.2.2.1 x q
  · rw [q]; exact he
theorem z_R.push {Z : Nat} {D : va_G} {tc : Nat → ClassId} {ad : Nat → Nat} {h : zH} {H H1 : Heap} {q : Nat} {e : zE} (hR : z_R Z D tc ad h H) (hn : h.length < zB) (hx : ∀ a b : Nat → Nat, z_trE a tc e = z_trE b tc e) (he : z_okE h.length e) (hP : va_P D vwCl (z_ws ad tc h ++ [(q, z_trE ad tc e)]) H1) (hD : va_D (fun q => Z ≤ q) (z_ws ad tc h ++ [(q, z_trE ad tc e)])) : z_R Z D tc (z_up ad h.length q) (h ++ [e]) H1 := by
  rw [z_ws_push hR.2.2.1 hn hx] at hP hD
  refine ⟨hP, hD, fun x hx => ?_, by rw [List.length_append, List.length_singleton]; omega⟩
  rw [List.length_append, List.length_singleton]
  rcases List.mem_append.mp hx with q | q
  · exact (hR.2.2.1 x q).mono (Nat.le_succ _)
  · rw [List.mem_singleton.mp q]; exact he.mono (Nat.le_succ _)
/-! locals -/
def z_get (l : zL) (i : Nat) : Option Value := (l.find? (fun q => q.1 == i)).map (fun q => q.2)
def z_set1 (l : zL) (i : Nat) (v : Value) : zL := (i, v) :: l.filter (fun q => !(q.1 == i) && !(q.1 + 1 == i && q.2.category == 2))
def z_set2 (l : zL) (i : Nat) (v : Value) : zL := (i, v) :: l.filter (fun q => !(q.1 == i) && (!(q.1 == i + 1) && !(q.1 + 1 == i && q.2.category == 2)))
def z_tl (ad : Nat → Nat) (l : zL) : zL := l.map (fun q => (q.1, z_tr ad q.2))
theorem z_get_mem {l : zL} {i : Nat} {v : Value} (h : z_get l i = some v) : (i, v) ∈ l := by
  unfold z_get at h
  cases hf : l.find? (fun q => q.1 == i) with
  | none => rw [hf] at h; cases h
  | some q =>
    rw [hf] at h
    have h1 := List.find?_some hf
    have h2 := List.mem_of_find?_eq_some hf
    simp only [Option.map_some, Option.some.injEq] at h
    have h3 : q.1 = i := by simpa using h1
    rw [← h, ← h3]
    exact h2
theorem z_tl_at {ad : Nat → Nat} {ls : Array Slot} {nL : Nat} {l : zL} {i : Nat} {v : Value} (h : lv_has ls nL (z_tl ad l)) (hg : z_get l i = some v) : ls[i]? = some (.val (z_tr ad v)) :=
  h.2.2 (i, z_tr ad v) (List.mem_map.mpr ⟨(i, v), z_get_mem hg, rfl⟩)
theorem z_tl_set1 (ad : Nat → Nat) (l : zL) (i : Nat) (v : Value) : (i, z_tr ad v) :: (z_tl ad l).filter (fun q => !(q.1 == i) && !(q.1 + 1 == i && q.2.category == 2)) = z_tl ad (z_set1 l i v) := by
  simp only [z_tl, z_set1, List.map_cons, List.filter_map]
  congr 2
  apply List.filter_congr
  intro q _
  simp only [Function.comp, z_tr_cat]
theorem z_tl_set2 (ad : Nat → Nat) (l : zL) (i : Nat) (v : Value) : (i, z_tr ad v) :: (z_tl ad l).filter (fun q => !(q.1 == i) && (!(q.1 == i + 1) && !(q.1 + 1 == i && q.2.category == 2))) = z_tl ad (z_set2 l i v) := by
  simp only [z_tl, z_set2, List.map_cons, List.filter_map]
  congr 2
  apply List.filter_congr
  intro q _
  simp only [Function.comp, z_tr_cat]
theorem z_set1_ok {n : Nat} {l : zL} {i : Nat} {v : Value} (h : ∀ q ∈ l, z_okV n q.2) (hv : z_okV n v) : ∀ q ∈ z_set1 l i v, z_okV n q.2 := by
  intro q hq
  rcases List.mem_cons.mp hq with e | e
  · rw [e]; exact hv
  · exact h q ((List.mem_filter.mp e).1)
theorem z_set2_ok {n : Nat} {l : zL} {i : Nat} {v : Value} (h : ∀ q ∈ l, z_okV n q.2) (hv : z_okV n v) : ∀ q ∈ z_set2 l i v, z_okV n q.2 := by
  intro q hq
  rcases List.mem_cons.mp hq with e | e
  · rw [e]; exact hv
  · exact h q ((List.mem_filter.mp e).1)
theorem z_tl_ag {n : Nat} {ad ad' : Nat → Nat} (h : z_ag n ad ad') {l : zL} (hl : ∀ q ∈ l, z_okV n q.2) : z_tl ad' l = z_tl ad l :=
  List.map_congr_left fun q hq => by rw [z_tr_ag h (hl q hq)]
theorem z_st_ag {n : Nat} {ad ad' : Nat → Nat} (h : z_ag n ad ad') {st : List Value} (hl : ∀ v ∈ st, z_okV n v) : st.map (z_tr ad') = st.map (z_tr ad) :=
  List.map_congr_left fun v hv => z_tr_ag h (hl v hv)
theorem z_args_tr (ad : Nat → Nat) : ∀ (i : Nat) (vs : List Value), lv_args i (vs.map (z_tr ad)) = z_tl ad (lv_args i vs)
  | _, [] => rfl
  | i, v :: vs => by
    show (i, z_tr ad v) :: lv_args _ (vs.map (z_tr ad)) = (i, z_tr ad v) :: z_tl ad (lv_args _ vs)
    rw [z_args_tr, z_tr_cat]
theorem z_args_ok {n : Nat} : ∀ (i : Nat) (vs : List Value), (∀ v ∈ vs, z_okV n v) → ∀ q ∈ lv_args i vs, z_okV n q.2
  | _, [], _, q, hq => by cases hq
  | i, v :: vs, h, q, hq => by
    rcases List.mem_cons.mp hq with e | e
    · rw [e]; exact h v List.mem_cons_self
    · exact z_args_ok _ vs (fun w hw => h w (List.mem_cons_of_mem _ hw)) q e
end
section
/-! TABLES, printed by a program of mine out of what TURN printed of the program: the codes, what each step is on the machine, the words by their places -/
abbrev zMi : Type := String × MethodName × ByteArray × Nat × Option FieldType × List (Nat × Nat × Nat × Nat)
abbrev zJ : Type := Nat × Instr × Nat × List Nat
def z_strs : List (String × Nat × String × List Int32) := [("ClockShares", 70, "the text of the deed is wrong", [116, 104, 101, 32, 116, 101, 120, 116, 32, 111, 102, 32, 116, 104, 101, 32, 100, 101, 101, 100, 32, 105, 115, 32, 119, 114, 111, 110, 103]), ("ClockShares", 80, "the deed has all its texts", [116, 104, 101, 32, 100, 101, 101, 100, 32, 104, 97, 115, 32, 97, 108, 108, 32, 105, 116, 115, 32, 116, 101, 120, 116, 115]), ("ClockShares", 90, "the text of the law is wrong", [116, 104, 101, 32, 116, 101, 120, 116, 32, 111, 102, 32, 116, 104, 101, 32, 108, 97, 119, 32, 105, 115, 32, 119, 114, 111, 110, 103]), ("ClockShares", 275, "the tape does not tell risings", [116, 104, 101, 32, 116, 97, 112, 101, 32, 100, 111, 101, 115, 32, 110, 111, 116, 32, 116, 101, 108, 108, 32, 114, 105, 115, 105, 110, 103, 115]), ("ClockShares", 353, "there is no such hour", [116, 104, 101, 114, 101, 32, 105, 115, 32, 110, 111, 32, 115, 117, 99, 104, 32, 104, 111, 117, 114]), ("ClockShares", 359, "there is no such family", [116, 104, 101, 114, 101, 32, 105, 115, 32, 110, 111, 32, 115, 117, 99, 104, 32, 102, 97, 109, 105, 108, 121]), ("ClockShares", 362, "there is no such thing", [116, 104, 101, 114, 101, 32, 105, 115, 32, 110, 111, 32, 115, 117, 99, 104, 32, 116, 104, 105, 110, 103]), ("ClockShares", 366, "nothing is told by that number", [110, 111, 116, 104, 105, 110, 103, 32, 105, 115, 32, 116, 111, 108, 100, 32, 98, 121, 32, 116, 104, 97, 116, 32, 110, 117, 109, 98, 101, 114]), ("ClockShares", 369, "the number is none", [116, 104, 101, 32, 110, 117, 109, 98, 101, 114, 32, 105, 115, 32, 110, 111, 110, 101]), ("ClockShares", 371, "both are one", [98, 111, 116, 104, 32, 97, 114, 101, 32, 111, 110, 101]), ("ClockShares", 375, "it cannot be", [105, 116, 32, 99, 97, 110, 110, 111, 116, 32, 98, 101]), ("ClockShares$DeedReader", 46, "family", [102, 97, 109, 105, 108, 121]), ("ClockShares$DeedReader", 62, "thing", [116, 104, 105, 110, 103]), ("ClockShares$DeedReader", 67, "hours", [104, 111, 117, 114, 115]), ("ClockShares$DeedReader", 81, "free", [102, 114, 101, 101]), ("ClockShares$DeedReader", 83, "wishes", [119, 105, 115, 104, 101, 115]), ("ClockShares$DeedReader", 91, "cold", [99, 111, 108, 100]), ("ClockShares$DeedReader", 100, "fine", [102, 105, 110, 101]), ("ClockShares$DeedReader", 104, "price", [112, 114, 105, 99, 101]), ("ClockShares$DeedReader", 108, "guests", [103, 117, 101, 115, 116, 115]), ("ClockShares$DeedReader", 112, "hour", [104, 111, 117, 114]), ("ClockShares$DeedReader", 116, "purse", [112, 117, 114, 115, 101]), ("ClockShares$DeedReader", 122, "dust", [100, 117, 115, 116]), ("ClockShares$DeedReader", 124, "stove", [115, 116, 111, 118, 101]), ("ClockShares$DeedReader", 130, "bulk", [98, 117, 108, 107]), ("ClockShares$DeedReader", 132, "left", [108, 101, 102, 116]), ("ClockShares$DeedReader", 141, "to", [116, 111]), ("ClockShares$LawReader", 46, "if", [105, 102]), ("ClockShares$LawReader", 78, "warm", [119, 97, 114, 109]), ("ClockShares$LawReader", 80, "dust", [100, 117, 115, 116]), ("ClockShares$LawReader", 82, "fine", [102, 105, 110, 101]), ("ClockShares$LawReader", 91, "and", [97, 110, 100]), ("ClockShares$LawReader", 97, "or", [111, 114]), ("ClockShares$LawReader", 99, "not", [110, 111, 116]), ("ClockShares$LawReader", 105, "night", [110, 105, 103, 104, 116]), ("ClockShares$LawReader", 107, "wished", [119, 105, 115, 104, 101, 100]), ("ClockShares$LawReader", 119, "family", [102, 97, 109, 105, 108, 121]), ("ClockShares$LawReader", 121, "hour", [104, 111, 117, 114]), ("ClockShares$LawReader", 123, "heat", [104, 101, 97, 116]), ("ClockShares$LawReader", 125, "dirt", [100, 105, 114, 116]), ("ClockShares$LawReader", 127, "quarrel", [113, 117, 97, 114, 114, 101, 108]), ("ClockShares$LawReader", 129, "left", [108, 101, 102, 116]), ("ClockSharesModel", 131, "to", [116, 111]), ("ClockSharesModel", 140, "purse", [112, 117, 114, 115, 101]), ("ClockSharesModel", 142, "dust", [100, 117, 115, 116]), ("ClockSharesModel", 144, "stove", [115, 116, 111, 118, 101]), ("ClockSharesModel", 146, "hours", [104, 111, 117, 114, 115]), ("ClockSharesModel", 154, "wishes", [119, 105, 115, 104, 101, 115]), ("ClockSharesModel", 163, "bulk", [98, 117, 108, 107]), ("ClockSharesModel", 165, "left", [108, 101, 102, 116]), ("ClockSharesModel", 167, "family", [102, 97, 109, 105, 108, 121]), ("ClockSharesModel", 176, "free", [102, 114, 101, 101]), ("ClockSharesModel", 181, "thing", [116, 104, 105, 110, 103]), ("ClockSharesModel", 189, "cold", [99, 111, 108, 100]), ("ClockSharesModel", 194, "fine", [102, 105, 110, 101]), ("ClockSharesModel", 196, "price", [112, 114, 105, 99, 101]), ("ClockSharesModel", 198, "guests", [103, 117, 101, 115, 116, 115]), ("ClockSharesModel", 200, "hour", [104, 111, 117, 114]), ("ClockSharesModel", 208, "heat", [104, 101, 97, 116]), ("ClockSharesModel", 210, "dirt", [100, 105, 114, 116]), ("ClockSharesModel", 212, "quarrel", [113, 117, 97, 114, 114, 101, 108]), ("ClockSharesModel", 221, "night", [110, 105, 103, 104, 116]), ("ClockSharesModel", 223, "wished", [119, 105, 115, 104, 101, 100]), ("ClockSharesModel", 231, "not", [110, 111, 116]), ("ClockSharesModel", 242, "and", [97, 110, 100]), ("ClockSharesModel", 247, "or", [111, 114]), ("ClockSharesModel", 249, "warm", [119, 97, 114, 109]), ("ClockSharesModel", 251, "if", [105, 102])]
def z_excs : List String := ["java/lang/IllegalArgumentException", "java/lang/UnsupportedOperationException", "java/lang/IndexOutOfBoundsException", "java/util/NoSuchElementException", "java/lang/IllegalStateException"]
def z_sw : List (Int × List Nat × Nat) := [(4, [2, 5, 8, 11, 14, 17, 20, 23, 26, 29], 32), (-13, [20, 13, 6, 2], 24), (0, [16, 22, 29, 36, 43, 45, 48, 51], 61), (0, [9, 16, 23], 33), (0, [2, 7, 12, 16, 38, 38, 38, 38, 38, 38, 38, 38, 38, 38, 20, 25, 29, 34], 38), (0, [2, 4, 6, 11, 16, 21, 26, 33], 42), (4, [26, 30, 34, 38, 42], 46), (3, [5, 32, 32, 32, 32, 32, 32, 32, 32, 32, 32, 18, 21, 24, 29], 32), (0, [25, 82, 99, 107, 115, 122, 140, 168, 206, 234, 262, 290, 318, 336, 354, 372, 380, 387, 405, 412, 440, 447, 454, 461, 468, 485, 513, 531, 569, 595, 602, 609, 627, 634, 662, 680, 698, 716, 723, 730, 766, 802, 838, 866, 883, 890, 895, 902], 919)]
def z_lk : List (List (Int × Nat) × Nat) := [([(0, 28), (1, 32)], 36)]
def z_m0 : zMi := (RX0, yX0_readInto, cX0_readInto, 4, some .int, [])
def z_c0 : List zI := [(2, 1, 0, 0), (54, 87, 0, 6), (2, 1, 0, 0), (54, 89, 0, 6), (4, 2, 0, 0), (0, 0, 0, 0), (4, 3, 0, 0), (1, 2, 0, 0), (31, 25, 0, 0), (1, 3, 0, 0), (0, 0, 0, 14), (32, 25, 3, 0), (2, 0, 0, 0), (2, 1, 0, 0), (55, 1, 2, 0), (2, 1, 0, 0), (54, 89, 0, 6), (4, 2, 0, 0), (1, 2, 0, 0), (31, 23, 0, 0), (2, 1, 0, 0), (0, 0, 0, 59), (54, 94, 1, 6), (7, 3, 0, 1), (30, 7, 0, 0), (1, 2, 0, 0), (31, 29, 0, 0), (2, 1, 0, 0), (54, 90, 0, 6), (2, 1, 0, 0), (54, 88, 0, 6), (50, 0, 0, 0)]
def z_i0 : List zJ := [(0, .aload_n 1, 1, []), (1, .invokevirtual 9, 3, [631, 632, 633, 102, 634]), (4, .aload_n 1, 1, []), (5, .invokevirtual 14, 3, [639, 640, 641, 102, 642]), (8, .istore_n 2, 1, []), (9, .iconst 0, 1, []), (10, .istore_n 3, 1, []), (11, .iload_n 2, 1, []), (12, .ifCond .eq 35, 3, []), (15, .iload_n 3, 1, []), (16, .bipush 14, 2, []), (18, .if_icmp .ge 29, 3, []), (21, .aload_n 0, 1, []), (22, .aload_n 1, 1, []), (23, .invokestatic 20, 3, [643, 644, 112, 645]), (26, .aload_n 1, 1, []), (27, .invokevirtual 14, 3, [639, 640, 641, 102, 642]), (30, .istore_n 2, 1, []), (31, .iload_n 2, 1, []), (32, .ifCond .eq 9, 3, []), (35, .aload_n 1, 1, []), (36, .bipush 59, 2, []), (38, .invokevirtual 24, 3, [784, 785, 786, 102, 787]), (41, .iinc 3 1, 3, []), (44, .goto (-33), 3, []), (47, .iload_n 2, 1, []), (48, .ifCond .eq 7, 3, []), (51, .aload_n 1, 1, []), (52, .invokevirtual 28, 3, [783, 720, 721, 102, 722]), (55, .aload_n 1, 1, []), (56, .invokevirtual 31, 3, [792, 793, 794, 102, 795]), (59, .ireturn, 1, [])]
def z_h0 : List (Nat × Nat × Nat × Nat × Nat × Nat × Nat) := []
def z_m1 : zMi := (RX0, yX0_readLine, cX0_readLine, 3, none, [])
def z_c1 : List zI := [(2, 0, 0, 0), (37, 1, 1, 0), (54, 10, 0, 0), (31, 12, 0, 0), (2, 1, 0, 0), (58, 11, 0, 0), (54, 91, 1, 6), (31, 12, 0, 0), (2, 0, 0, 0), (2, 1, 0, 0), (55, 3, 2, 0), (30, 66, 0, 0), (2, 0, 0, 0), (37, 1, 2, 0), (54, 103, 0, 7), (31, 24, 0, 0), (2, 1, 0, 0), (58, 12, 0, 0), (54, 91, 1, 6), (31, 24, 0, 0), (2, 0, 0, 0), (2, 1, 0, 0), (55, 4, 2, 0), (30, 66, 0, 0), (2, 1, 0, 0), (58, 13, 0, 0), (54, 91, 1, 6), (31, 38, 0, 0), (2, 0, 0, 0), (2, 1, 0, 0), (55, 5, 2, 0), (4, 2, 0, 0), (2, 0, 0, 0), (2, 1, 0, 0), (55, 6, 1, 0), (1, 2, 0, 0), (54, 29, 2, 1), (30, 66, 0, 0), (2, 1, 0, 0), (58, 14, 0, 0), (54, 91, 1, 6), (31, 48, 0, 0), (2, 0, 0, 0), (2, 1, 0, 0), (55, 6, 1, 0), (0, 0, 0, -1), (54, 29, 2, 1), (30, 66, 0, 0), (2, 1, 0, 0), (58, 15, 0, 0), (54, 91, 1, 6), (31, 63, 0, 0), (2, 0, 0, 0), (2, 1, 0, 0), (55, 5, 2, 0), (4, 2, 0, 0), (2, 0, 0, 0), (37, 1, 1, 0), (1, 2, 0, 0), (2, 1, 0, 0), (55, 6, 1, 0), (54, 13, 2, 0), (30, 66, 0, 0), (2, 0, 0, 0), (2, 1, 0, 0), (55, 2, 2, 0), (53, 0, 0, 0)]
def z_i1 : List zJ := [(0, .aload_n 0, 1, []), (1, .getfield 35, 3, [273]), (4, .invokevirtual 41, 3, [646, 647, 648, 105, 649]), (7, .ifCond .eq 20, 3, []), (10, .aload_n 1, 1, []), (11, .ldc 46, 2, []), (13, .invokevirtual 48, 3, [651, 652, 653, 102, 654]), (16, .ifCond .eq 11, 3, []), (19, .aload_n 0, 1, []), (20, .aload_n 1, 1, []), (21, .invokestatic 52, 3, [710, 711, 112, 712]), (24, .goto 113, 3, []), (27, .aload_n 0, 1, []), (28, .getfield 55, 3, [277]), (31, .invokevirtual 59, 3, [752, 753, 754, 106, 755]), (34, .ifCond .eq 20, 3, []), (37, .aload_n 1, 1, []), (38, .ldc 62, 2, []), (40, .invokevirtual 48, 3, [651, 652, 653, 102, 654]), (43, .ifCond .eq 11, 3, []), (46, .aload_n 0, 1, []), (47, .aload_n 1, 1, []), (48, .invokestatic 64, 3, [757, 758, 112, 759]), (51, .goto 86, 3, []), (54, .aload_n 1, 1, []), (55, .ldc 67, 2, []), (57, .invokevirtual 48, 3, [651, 652, 653, 102, 654]), (60, .ifCond .eq 21, 3, []), (63, .aload_n 0, 1, []), (64, .aload_n 1, 1, []), (65, .invokestatic 69, 3, [760, 761, 112, 762]), (68, .istore_n 2, 1, []), (69, .aload_n 0, 1, []), (70, .aload_n 1, 1, []), (71, .invokestatic 73, 3, [738, 739, 112, 740]), (74, .iload_n 2, 1, []), (75, .invokevirtual 77, 3, [743, 744, 745, 104, 746]), (78, .goto 59, 3, []), (81, .aload_n 1, 1, []), (82, .ldc 81, 2, []), (84, .invokevirtual 48, 3, [651, 652, 653, 102, 654]), (87, .ifCond .eq 15, 3, []), (90, .aload_n 0, 1, []), (91, .aload_n 1, 1, []), (92, .invokestatic 73, 3, [738, 739, 112, 740]), (95, .iconst (-1), 1, []), (96, .invokevirtual 77, 3, [743, 744, 745, 104, 746]), (99, .goto 38, 3, []), (102, .aload_n 1, 1, []), (103, .ldc 83, 2, []), (105, .invokevirtual 48, 3, [651, 652, 653, 102, 654]), (108, .ifCond .eq 24, 3, []), (111, .aload_n 0, 1, []), (112, .aload_n 1, 1, []), (113, .invokestatic 69, 3, [760, 761, 112, 762]), (116, .istore_n 2, 1, []), (117, .aload_n 0, 1, []), (118, .getfield 35, 3, [273]), (121, .iload_n 2, 1, []), (122, .aload_n 1, 1, []), (123, .invokestatic 73, 3, [738, 739, 112, 740]), (126, .invokevirtual 85, 3, [748, 749, 750, 105, 751]), (129, .goto 8, 3, []), (132, .aload_n 0, 1, []), (133, .aload_n 1, 1, []), (134, .invokestatic 88, 3, [775, 776, 112, 777]), (137, .return_, 1, [])]
def z_h1 : List (Nat × Nat × Nat × Nat × Nat × Nat × Nat) := []
def z_m2 : zMi := (RX0, yX0_readSetting, cX0_readSetting, 2, none, [])
def z_c2 : List zI := [(2, 1, 0, 0), (58, 16, 0, 0), (54, 91, 1, 6), (31, 11, 0, 0), (2, 0, 0, 0), (2, 1, 0, 0), (0, 0, 0, 0), (0, 0, 0, 9), (54, 96, 2, 6), (38, 1, 13, 0), (30, 57, 0, 0), (2, 1, 0, 0), (58, 17, 0, 0), (54, 91, 1, 6), (31, 22, 0, 0), (2, 0, 0, 0), (2, 1, 0, 0), (0, 0, 0, 0), (0, 0, 0, 20), (54, 96, 2, 6), (38, 1, 14, 0), (30, 57, 0, 0), (2, 1, 0, 0), (58, 18, 0, 0), (54, 91, 1, 6), (31, 33, 0, 0), (2, 0, 0, 0), (2, 1, 0, 0), (0, 0, 0, 0), (0, 0, 0, 99), (54, 96, 2, 6), (38, 1, 15, 0), (30, 57, 0, 0), (2, 1, 0, 0), (58, 19, 0, 0), (54, 91, 1, 6), (31, 44, 0, 0), (2, 0, 0, 0), (2, 1, 0, 0), (0, 0, 0, 0), (0, 0, 0, 100), (54, 96, 2, 6), (38, 1, 16, 0), (30, 57, 0, 0), (2, 1, 0, 0), (58, 20, 0, 0), (54, 91, 1, 6), (31, 55, 0, 0), (2, 0, 0, 0), (2, 1, 0, 0), (0, 0, 0, 0), (0, 0, 0, 23), (54, 96, 2, 6), (38, 1, 7, 0), (30, 57, 0, 0), (2, 1, 0, 0), (54, 90, 0, 6), (53, 0, 0, 0)]
def z_i2 : List zJ := [(0, .aload_n 1, 1, []), (1, .ldc 91, 2, []), (3, .invokevirtual 48, 3, [651, 652, 653, 102, 654]), (6, .ifCond .eq 17, 3, []), (9, .aload_n 0, 1, []), (10, .aload_n 1, 1, []), (11, .iconst 0, 1, []), (12, .bipush 9, 2, []), (14, .invokevirtual 93, 3, [723, 724, 725, 102, 726]), (17, .putfield 97, 3, [298]), (20, .goto 99, 3, []), (23, .aload_n 1, 1, []), (24, .ldc 100, 2, []), (26, .invokevirtual 48, 3, [651, 652, 653, 102, 654]), (29, .ifCond .eq 17, 3, []), (32, .aload_n 0, 1, []), (33, .aload_n 1, 1, []), (34, .iconst 0, 1, []), (35, .bipush 20, 2, []), (37, .invokevirtual 93, 3, [723, 724, 725, 102, 726]), (40, .putfield 102, 3, [300]), (43, .goto 76, 3, []), (46, .aload_n 1, 1, []), (47, .ldc 104, 2, []), (49, .invokevirtual 48, 3, [651, 652, 653, 102, 654]), (52, .ifCond .eq 17, 3, []), (55, .aload_n 0, 1, []), (56, .aload_n 1, 1, []), (57, .iconst 0, 1, []), (58, .bipush 99, 2, []), (60, .invokevirtual 93, 3, [723, 724, 725, 102, 726]), (63, .putfield 106, 3, [302]), (66, .goto 53, 3, []), (69, .aload_n 1, 1, []), (70, .ldc 108, 2, []), (72, .invokevirtual 48, 3, [651, 652, 653, 102, 654]), (75, .ifCond .eq 17, 3, []), (78, .aload_n 0, 1, []), (79, .aload_n 1, 1, []), (80, .iconst 0, 1, []), (81, .bipush 100, 2, []), (83, .invokevirtual 93, 3, [723, 724, 725, 102, 726]), (86, .putfield 110, 3, [306]), (89, .goto 30, 3, []), (92, .aload_n 1, 1, []), (93, .ldc 112, 2, []), (95, .invokevirtual 48, 3, [651, 652, 653, 102, 654]), (98, .ifCond .eq 17, 3, []), (101, .aload_n 0, 1, []), (102, .aload_n 1, 1, []), (103, .iconst 0, 1, []), (104, .bipush 23, 2, []), (106, .invokevirtual 93, 3, [723, 724, 725, 102, 726]), (109, .putfield 114, 3, [287]), (112, .goto 7, 3, []), (115, .aload_n 1, 1, []), (116, .invokevirtual 28, 3, [783, 720, 721, 102, 722]), (119, .return_, 1, [])]
def z_h2 : List (Nat × Nat × Nat × Nat × Nat × Nat × Nat) := []
def z_m3 : zMi := (RX0, yX0_readFamily, cX0_readFamily, 6, none, [])
def z_c3 : List zI := [(2, 1, 0, 0), (58, 21, 0, 0), (54, 92, 1, 6), (2, 1, 0, 0), (0, 0, 0, 0), (0, 0, 0, 999), (54, 96, 2, 6), (4, 2, 0, 0), (2, 1, 0, 0), (58, 22, 0, 0), (54, 92, 1, 6), (2, 1, 0, 0), (0, 0, 0, 0), (0, 0, 0, 9), (54, 96, 2, 6), (4, 3, 0, 0), (2, 1, 0, 0), (58, 23, 0, 0), (54, 92, 1, 6), (2, 1, 0, 0), (0, 0, 0, 0), (0, 0, 0, 9), (54, 96, 2, 6), (4, 4, 0, 0), (2, 0, 0, 0), (37, 1, 1, 0), (1, 2, 0, 0), (1, 3, 0, 0), (1, 4, 0, 0), (54, 12, 3, 0), (4, 5, 0, 0), (2, 1, 0, 0), (58, 13, 0, 0), (54, 91, 1, 6), (31, 40, 0, 0), (2, 0, 0, 0), (2, 1, 0, 0), (55, 6, 1, 0), (1, 5, 0, 0), (54, 29, 2, 1), (2, 1, 0, 0), (58, 15, 0, 0), (54, 91, 1, 6), (31, 50, 0, 0), (2, 0, 0, 0), (37, 1, 1, 0), (1, 5, 0, 0), (2, 1, 0, 0), (55, 6, 1, 0), (54, 13, 2, 0), (53, 0, 0, 0)]
def z_i3 : List zJ := [(0, .aload_n 1, 1, []), (1, .ldc 116, 2, []), (3, .invokevirtual 118, 3, [714, 715, 716, 102, 717]), (6, .aload_n 1, 1, []), (7, .iconst 0, 1, []), (8, .sipush 999, 3, []), (11, .invokevirtual 93, 3, [723, 724, 725, 102, 726]), (14, .istore_n 2, 1, []), (15, .aload_n 1, 1, []), (16, .ldc 122, 2, []), (18, .invokevirtual 118, 3, [714, 715, 716, 102, 717]), (21, .aload_n 1, 1, []), (22, .iconst 0, 1, []), (23, .bipush 9, 2, []), (25, .invokevirtual 93, 3, [723, 724, 725, 102, 726]), (28, .istore_n 3, 1, []), (29, .aload_n 1, 1, []), (30, .ldc 124, 2, []), (32, .invokevirtual 118, 3, [714, 715, 716, 102, 717]), (35, .aload_n 1, 1, []), (36, .iconst 0, 1, []), (37, .bipush 9, 2, []), (39, .invokevirtual 93, 3, [723, 724, 725, 102, 726]), (42, .istore 4, 2, []), (44, .aload_n 0, 1, []), (45, .getfield 35, 3, [273]), (48, .iload_n 2, 1, []), (49, .iload_n 3, 1, []), (50, .iload 4, 2, []), (52, .invokevirtual 126, 3, [732, 733, 734, 105, 735]), (55, .istore 5, 2, []), (57, .aload_n 1, 1, []), (58, .ldc 67, 2, []), (60, .invokevirtual 48, 3, [651, 652, 653, 102, 654]), (63, .ifCond .eq 13, 3, []), (66, .aload_n 0, 1, []), (67, .aload_n 1, 1, []), (68, .invokestatic 73, 3, [738, 739, 112, 740]), (71, .iload 5, 2, []), (73, .invokevirtual 77, 3, [743, 744, 745, 104, 746]), (76, .aload_n 1, 1, []), (77, .ldc 83, 2, []), (79, .invokevirtual 48, 3, [651, 652, 653, 102, 654]), (82, .ifCond .eq 16, 3, []), (85, .aload_n 0, 1, []), (86, .getfield 35, 3, [273]), (89, .iload 5, 2, []), (91, .aload_n 1, 1, []), (92, .invokestatic 73, 3, [738, 739, 112, 740]), (95, .invokevirtual 85, 3, [748, 749, 750, 105, 751]), (98, .return_, 1, [])]
def z_h3 : List (Nat × Nat × Nat × Nat × Nat × Nat × Nat) := []
def z_m4 : zMi := (RX0, yX0_readThing, cX0_readThing, 4, none, [])
def z_c4 : List zI := [(2, 0, 0, 0), (2, 1, 0, 0), (55, 5, 2, 0), (4, 2, 0, 0), (2, 1, 0, 0), (58, 24, 0, 0), (54, 92, 1, 6), (2, 1, 0, 0), (0, 0, 0, 1), (0, 0, 0, 9), (54, 96, 2, 6), (4, 3, 0, 0), (2, 0, 0, 0), (37, 1, 2, 0), (1, 2, 0, 0), (1, 3, 0, 0), (2, 1, 0, 0), (58, 25, 0, 0), (54, 91, 1, 6), (54, 104, 3, 7), (53, 0, 0, 0)]
def z_i4 : List zJ := [(0, .aload_n 0, 1, []), (1, .aload_n 1, 1, []), (2, .invokestatic 69, 3, [760, 761, 112, 762]), (5, .istore_n 2, 1, []), (6, .aload_n 1, 1, []), (7, .ldc 130, 2, []), (9, .invokevirtual 118, 3, [714, 715, 716, 102, 717]), (12, .aload_n 1, 1, []), (13, .iconst 1, 1, []), (14, .bipush 9, 2, []), (16, .invokevirtual 93, 3, [723, 724, 725, 102, 726]), (19, .istore_n 3, 1, []), (20, .aload_n 0, 1, []), (21, .getfield 55, 3, [277]), (24, .iload_n 2, 1, []), (25, .iload_n 3, 1, []), (26, .aload_n 1, 1, []), (27, .ldc 132, 2, []), (29, .invokevirtual 48, 3, [651, 652, 653, 102, 654]), (32, .invokevirtual 134, 3, [765, 766, 767, 106, 768]), (35, .return_, 1, [])]
def z_h4 : List (Nat × Nat × Nat × Nat × Nat × Nat × Nat) := []
def z_m5 : zMi := (RX0, yX0_readFamilyNumber, cX0_readFamilyNumber, 2, some .int, [])
def z_c5 : List zI := [(2, 1, 0, 0), (0, 0, 0, 0), (2, 0, 0, 0), (37, 1, 1, 0), (37, 0, 4, 0), (0, 0, 0, 1), (9, 0, 0, 0), (54, 96, 2, 6), (50, 0, 0, 0)]
def z_i5 : List zJ := [(0, .aload_n 1, 1, []), (1, .iconst 0, 1, []), (2, .aload_n 0, 1, []), (3, .getfield 35, 3, [273]), (6, .getfield 138, 3, [209]), (9, .iconst 1, 1, []), (10, .isub, 1, []), (11, .invokevirtual 93, 3, [723, 724, 725, 102, 726]), (14, .ireturn, 1, [])]
def z_h5 : List (Nat × Nat × Nat × Nat × Nat × Nat × Nat) := []
def z_m6 : zMi := (RX0, yX0_readHours, cX0_readHours, 6, some .int, [])
def z_c6 : List zI := [(2, 0, 0, 0), (0, 0, 0, 0), (0, 0, 0, 23), (54, 96, 2, 6), (4, 1, 0, 0), (2, 0, 0, 0), (58, 26, 0, 0), (54, 92, 1, 6), (2, 0, 0, 0), (0, 0, 0, 0), (0, 0, 0, 23), (54, 96, 2, 6), (4, 2, 0, 0), (1, 2, 0, 0), (1, 1, 0, 0), (9, 0, 0, 0), (0, 0, 0, 24), (55, 312, 2, 0), (0, 0, 0, 1), (8, 0, 0, 0), (4, 3, 0, 0), (0, 0, 0, 0), (4, 4, 0, 0), (0, 0, 0, 0), (4, 5, 0, 0), (1, 5, 0, 0), (1, 3, 0, 0), (32, 40, 3, 0), (1, 4, 0, 0), (0, 0, 0, 1), (1, 1, 0, 0), (1, 5, 0, 0), (8, 0, 0, 0), (0, 0, 0, 24), (12, 0, 0, 0), (13, 0, 0, 0), (17, 0, 0, 0), (4, 4, 0, 0), (7, 5, 0, 1), (30, 25, 0, 0), (1, 4, 0, 0), (50, 0, 0, 0)]
def z_i6 : List zJ := [(0, .aload_n 0, 1, []), (1, .iconst 0, 1, []), (2, .bipush 23, 2, []), (4, .invokevirtual 93, 3, [723, 724, 725, 102, 726]), (7, .istore_n 1, 1, []), (8, .aload_n 0, 1, []), (9, .ldc 141, 2, []), (11, .invokevirtual 118, 3, [714, 715, 716, 102, 717]), (14, .aload_n 0, 1, []), (15, .iconst 0, 1, []), (16, .bipush 23, 2, []), (18, .invokevirtual 93, 3, [723, 724, 725, 102, 726]), (21, .istore_n 2, 1, []), (22, .iload_n 2, 1, []), (23, .iload_n 1, 1, []), (24, .isub, 1, []), (25, .bipush 24, 2, []), (27, .invokestatic 143, 3, [742, 452, 117, 453]), (30, .iconst 1, 1, []), (31, .iadd, 1, []), (32, .istore_n 3, 1, []), (33, .iconst 0, 1, []), (34, .istore 4, 2, []), (36, .iconst 0, 1, []), (37, .istore 5, 2, []), (39, .iload 5, 2, []), (41, .iload_n 3, 1, []), (42, .if_icmp .ge 23, 3, []), (45, .iload 4, 2, []), (47, .iconst 1, 1, []), (48, .iload_n 1, 1, []), (49, .iload 5, 2, []), (51, .iadd, 1, []), (52, .bipush 24, 2, []), (54, .irem, 1, []), (55, .ishl, 1, []), (56, .ior, 1, []), (57, .istore 4, 2, []), (59, .iinc 5 1, 3, []), (62, .goto (-23), 3, []), (65, .iload 4, 2, []), (67, .ireturn, 1, [])]
def z_h6 : List (Nat × Nat × Nat × Nat × Nat × Nat × Nat) := []
def z_m7 : zMi := (RX1, yX1_init, cX1_init, 1, none, [])
def z_c7 : List zI := [(2, 0, 0, 0), (57, 0, 0, 0), (2, 0, 0, 0), (0, 0, 0, 6), (47, 0, 0, 0), (38, 0, 0, 2), (2, 0, 0, 0), (0, 0, 0, 6), (47, 0, 0, 0), (38, 0, 1, 2), (2, 0, 0, 0), (0, 0, 0, 6), (47, 0, 0, 0), (38, 0, 2, 2), (2, 0, 0, 0), (0, 0, 0, 6), (47, 0, 0, 0), (38, 0, 3, 2), (2, 0, 0, 0), (0, 0, 0, 0), (38, 0, 4, 0), (53, 0, 0, 0)]
def z_i7 : List zJ := [(0, .aload_n 0, 1, []), (1, .invokespecial 3, 3, [195, 136, 137]), (4, .aload_n 0, 1, []), (5, .bipush 6, 2, []), (7, .newarray .int, 2, [158]), (9, .putfield 9, 3, [196]), (12, .aload_n 0, 1, []), (13, .bipush 6, 2, []), (15, .newarray .int, 2, [158]), (17, .putfield 15, 3, [198]), (20, .aload_n 0, 1, []), (21, .bipush 6, 2, []), (23, .newarray .int, 2, [158]), (25, .putfield 18, 3, [201]), (28, .aload_n 0, 1, []), (29, .bipush 6, 2, []), (31, .newarray .int, 2, [158]), (33, .putfield 21, 3, [204]), (36, .aload_n 0, 1, []), (37, .iconst 0, 1, []), (38, .putfield 24, 3, [207]), (41, .return_, 1, [])]
def z_h7 : List (Nat × Nat × Nat × Nat × Nat × Nat × Nat) := []
def z_m8 : zMi := (RX1, yX1_copyFrom, cX1_copyFrom, 2, none, [])
def z_c8 : List zI := [(2, 1, 0, 0), (37, 0, 0, 0), (0, 0, 0, 0), (2, 0, 0, 0), (37, 0, 0, 0), (0, 0, 0, 0), (0, 0, 0, 6), (61, 0, 0, 0), (2, 1, 0, 0), (37, 0, 1, 0), (0, 0, 0, 0), (2, 0, 0, 0), (37, 0, 1, 0), (0, 0, 0, 0), (0, 0, 0, 6), (61, 0, 0, 0), (2, 1, 0, 0), (37, 0, 2, 0), (0, 0, 0, 0), (2, 0, 0, 0), (37, 0, 2, 0), (0, 0, 0, 0), (0, 0, 0, 6), (61, 0, 0, 0), (2, 1, 0, 0), (37, 0, 3, 0), (0, 0, 0, 0), (2, 0, 0, 0), (37, 0, 3, 0), (0, 0, 0, 0), (0, 0, 0, 6), (61, 0, 0, 0), (2, 0, 0, 0), (2, 1, 0, 0), (37, 0, 4, 0), (38, 0, 4, 0), (53, 0, 0, 0)]
def z_i8 : List zJ := [(0, .aload_n 1, 1, []), (1, .getfield 9, 3, [196]), (4, .iconst 0, 1, []), (5, .aload_n 0, 1, []), (6, .getfield 9, 3, [196]), (9, .iconst 0, 1, []), (10, .bipush 6, 2, []), (12, .invokestatic 28, 3, [426]), (15, .aload_n 1, 1, []), (16, .getfield 15, 3, [198]), (19, .iconst 0, 1, []), (20, .aload_n 0, 1, []), (21, .getfield 15, 3, [198]), (24, .iconst 0, 1, []), (25, .bipush 6, 2, []), (27, .invokestatic 28, 3, [426]), (30, .aload_n 1, 1, []), (31, .getfield 18, 3, [201]), (34, .iconst 0, 1, []), (35, .aload_n 0, 1, []), (36, .getfield 18, 3, [201]), (39, .iconst 0, 1, []), (40, .bipush 6, 2, []), (42, .invokestatic 28, 3, [426]), (45, .aload_n 1, 1, []), (46, .getfield 21, 3, [204]), (49, .iconst 0, 1, []), (50, .aload_n 0, 1, []), (51, .getfield 21, 3, [204]), (54, .iconst 0, 1, []), (55, .bipush 6, 2, []), (57, .invokestatic 28, 3, [426]), (60, .aload_n 0, 1, []), (61, .aload_n 1, 1, []), (62, .getfield 24, 3, [207]), (65, .putfield 24, 3, [207]), (68, .return_, 1, [])]
def z_h8 : List (Nat × Nat × Nat × Nat × Nat × Nat × Nat) := []
def z_m9 : zMi := (RX1, yX1_has, cX1_has, 2, some .boolean, [])
def z_c9 : List zI := [(1, 1, 0, 0), (31, 11, 2, 0), (1, 1, 0, 0), (2, 0, 0, 0), (37, 0, 4, 0), (32, 11, 3, 0), (1, 1, 0, 0), (0, 0, 0, 6), (32, 11, 3, 0), (0, 0, 0, 1), (30, 12, 0, 0), (0, 0, 0, 0), (50, 0, 0, 0)]
def z_i9 : List zJ := [(0, .iload_n 1, 1, []), (1, .ifCond .lt 21, 3, []), (4, .iload_n 1, 1, []), (5, .aload_n 0, 1, []), (6, .getfield 24, 3, [207]), (9, .if_icmp .ge 13, 3, []), (12, .iload_n 1, 1, []), (13, .bipush 6, 2, []), (15, .if_icmp .ge 7, 3, []), (18, .iconst 1, 1, []), (19, .goto 4, 3, []), (22, .iconst 0, 1, []), (23, .ireturn, 1, [])]
def z_h9 : List (Nat × Nat × Nat × Nat × Nat × Nat × Nat) := []
def z_m10 : zMi := (RX1, yX1_hasRoom, cX1_hasRoom, 1, some .boolean, [])
def z_c10 : List zI := [(2, 0, 0, 0), (37, 0, 4, 0), (0, 0, 0, 6), (32, 6, 3, 0), (0, 0, 0, 1), (30, 7, 0, 0), (0, 0, 0, 0), (50, 0, 0, 0)]
def z_i10 : List zJ := [(0, .aload_n 0, 1, []), (1, .getfield 24, 3, [207]), (4, .bipush 6, 2, []), (6, .if_icmp .ge 7, 3, []), (9, .iconst 1, 1, []), (10, .goto 4, 3, []), (13, .iconst 0, 1, []), (14, .ireturn, 1, [])]
def z_h10 : List (Nat × Nat × Nat × Nat × Nat × Nat × Nat) := []
def z_m11 : zMi := (RX1, yX1_everyone, cX1_everyone, 1, some .int, [])
def z_c11 : List zI := [(0, 0, 0, 1), (2, 0, 0, 0), (37, 0, 4, 0), (13, 0, 0, 0), (0, 0, 0, 1), (9, 0, 0, 0), (50, 0, 0, 0)]
def z_i11 : List zJ := [(0, .iconst 1, 1, []), (1, .aload_n 0, 1, []), (2, .getfield 24, 3, [207]), (5, .ishl, 1, []), (6, .iconst 1, 1, []), (7, .isub, 1, []), (8, .ireturn, 1, [])]
def z_h11 : List (Nat × Nat × Nat × Nat × Nat × Nat × Nat) := []
def z_m12 : zMi := (RX1, yX1_found, cX1_found, 4, some .int, [])
def z_c12 : List zI := [(2, 0, 0, 0), (54, 10, 0, 0), (31, 5, 1, 0), (0, 0, 0, -1), (50, 0, 0, 0), (2, 0, 0, 0), (37, 0, 0, 0), (2, 0, 0, 0), (37, 0, 4, 0), (1, 1, 0, 0), (40, 0, 0, 0), (2, 0, 0, 0), (37, 0, 1, 0), (2, 0, 0, 0), (37, 0, 4, 0), (1, 2, 0, 0), (40, 0, 0, 0), (2, 0, 0, 0), (37, 0, 2, 0), (2, 0, 0, 0), (37, 0, 4, 0), (1, 3, 0, 0), (40, 0, 0, 0), (2, 0, 0, 0), (37, 0, 3, 0), (2, 0, 0, 0), (37, 0, 4, 0), (0, 0, 0, 0), (40, 0, 0, 0), (2, 0, 0, 0), (27, 0, 0, 0), (37, 0, 4, 0), (0, 0, 0, 1), (8, 0, 0, 0), (38, 0, 4, 0), (2, 0, 0, 0), (37, 0, 4, 0), (0, 0, 0, 1), (9, 0, 0, 0), (50, 0, 0, 0)]
def z_i12 : List zJ := [(0, .aload_n 0, 1, []), (1, .invokevirtual 34, 3, [736, 647, 648, 105, 649]), (4, .ifCond .ne 5, 3, []), (7, .iconst (-1), 1, []), (8, .ireturn, 1, []), (9, .aload_n 0, 1, []), (10, .getfield 9, 3, [196]), (13, .aload_n 0, 1, []), (14, .getfield 24, 3, [207]), (17, .iload_n 1, 1, []), (18, .iastore, 1, []), (19, .aload_n 0, 1, []), (20, .getfield 15, 3, [198]), (23, .aload_n 0, 1, []), (24, .getfield 24, 3, [207]), (27, .iload_n 2, 1, []), (28, .iastore, 1, []), (29, .aload_n 0, 1, []), (30, .getfield 18, 3, [201]), (33, .aload_n 0, 1, []), (34, .getfield 24, 3, [207]), (37, .iload_n 3, 1, []), (38, .iastore, 1, []), (39, .aload_n 0, 1, []), (40, .getfield 21, 3, [204]), (43, .aload_n 0, 1, []), (44, .getfield 24, 3, [207]), (47, .iconst 0, 1, []), (48, .iastore, 1, []), (49, .aload_n 0, 1, []), (50, .dup, 1, []), (51, .getfield 24, 3, [207]), (54, .iconst 1, 1, []), (55, .iadd, 1, []), (56, .putfield 24, 3, [207]), (59, .aload_n 0, 1, []), (60, .getfield 24, 3, [207]), (63, .iconst 1, 1, []), (64, .isub, 1, []), (65, .ireturn, 1, [])]
def z_h12 : List (Nat × Nat × Nat × Nat × Nat × Nat × Nat) := []
def z_m13 : zMi := (RX1, yX1_addWishes, cX1_addWishes, 3, none, [])
def z_c13 : List zI := [(2, 0, 0, 0), (1, 1, 0, 0), (54, 9, 1, 0), (31, 12, 0, 0), (2, 0, 0, 0), (37, 0, 3, 0), (1, 1, 0, 0), (28, 0, 0, 0), (39, 0, 0, 0), (1, 2, 0, 0), (17, 0, 0, 0), (40, 0, 0, 0), (53, 0, 0, 0)]
def z_i13 : List zJ := [(0, .aload_n 0, 1, []), (1, .iload_n 1, 1, []), (2, .invokevirtual 38, 3, [505, 506, 507, 105, 508]), (5, .ifCond .eq 13, 3, []), (8, .aload_n 0, 1, []), (9, .getfield 21, 3, [204]), (12, .iload_n 1, 1, []), (13, .dup2, 1, []), (14, .iaload, 1, []), (15, .iload_n 2, 1, []), (16, .ior, 1, []), (17, .iastore, 1, []), (18, .return_, 1, [])]
def z_h13 : List (Nat × Nat × Nat × Nat × Nat × Nat × Nat) := []
def z_m14 : zMi := (RX1, yX1_doesWish, cX1_doesWish, 3, some .boolean, [])
def z_c14 : List zI := [(2, 0, 0, 0), (1, 1, 0, 0), (54, 9, 1, 0), (31, 16, 0, 0), (2, 0, 0, 0), (37, 0, 3, 0), (1, 1, 0, 0), (39, 0, 0, 0), (1, 2, 0, 0), (14, 0, 0, 0), (0, 0, 0, 1), (16, 0, 0, 0), (0, 0, 0, 1), (32, 16, 1, 0), (0, 0, 0, 1), (30, 17, 0, 0), (0, 0, 0, 0), (50, 0, 0, 0)]
def z_i14 : List zJ := [(0, .aload_n 0, 1, []), (1, .iload_n 1, 1, []), (2, .invokevirtual 38, 3, [505, 506, 507, 105, 508]), (5, .ifCond .eq 21, 3, []), (8, .aload_n 0, 1, []), (9, .getfield 21, 3, [204]), (12, .iload_n 1, 1, []), (13, .iaload, 1, []), (14, .iload_n 2, 1, []), (15, .ishr, 1, []), (16, .iconst 1, 1, []), (17, .iand, 1, []), (18, .iconst 1, 1, []), (19, .if_icmp .ne 7, 3, []), (22, .iconst 1, 1, []), (23, .goto 4, 3, []), (26, .iconst 0, 1, []), (27, .ireturn, 1, [])]
def z_h14 : List (Nat × Nat × Nat × Nat × Nat × Nat × Nat) := []
def z_m15 : zMi := (RX1, yX1_wishedBy, cX1_wishedBy, 4, some .int, [])
def z_c15 : List zI := [(0, 0, 0, 0), (4, 2, 0, 0), (0, 0, 0, 0), (4, 3, 0, 0), (1, 3, 0, 0), (2, 0, 0, 0), (37, 0, 4, 0), (32, 24, 3, 0), (1, 1, 0, 0), (1, 3, 0, 0), (14, 0, 0, 0), (0, 0, 0, 1), (16, 0, 0, 0), (0, 0, 0, 1), (32, 22, 1, 0), (1, 2, 0, 0), (2, 0, 0, 0), (37, 0, 3, 0), (1, 3, 0, 0), (39, 0, 0, 0), (17, 0, 0, 0), (4, 2, 0, 0), (7, 3, 0, 1), (30, 4, 0, 0), (1, 2, 0, 0), (50, 0, 0, 0)]
def z_i15 : List zJ := [(0, .iconst 0, 1, []), (1, .istore_n 2, 1, []), (2, .iconst 0, 1, []), (3, .istore_n 3, 1, []), (4, .iload_n 3, 1, []), (5, .aload_n 0, 1, []), (6, .getfield 24, 3, [207]), (9, .if_icmp .ge 27, 3, []), (12, .iload_n 1, 1, []), (13, .iload_n 3, 1, []), (14, .ishr, 1, []), (15, .iconst 1, 1, []), (16, .iand, 1, []), (17, .iconst 1, 1, []), (18, .if_icmp .ne 12, 3, []), (21, .iload_n 2, 1, []), (22, .aload_n 0, 1, []), (23, .getfield 21, 3, [204]), (26, .iload_n 3, 1, []), (27, .iaload, 1, []), (28, .ior, 1, []), (29, .istore_n 2, 1, []), (30, .iinc 3 1, 3, []), (33, .goto (-29), 3, []), (36, .iload_n 2, 1, []), (37, .ireturn, 1, [])]
def z_h15 : List (Nat × Nat × Nat × Nat × Nat × Nat × Nat) := []
def z_m16 : zMi := (RX1, yX1_purseOf, cX1_purseOf, 2, some .int, [])
def z_c16 : List zI := [(2, 0, 0, 0), (1, 1, 0, 0), (54, 9, 1, 0), (31, 9, 0, 0), (2, 0, 0, 0), (37, 0, 0, 0), (1, 1, 0, 0), (39, 0, 0, 0), (30, 10, 0, 0), (0, 0, 0, 0), (50, 0, 0, 0)]
def z_i16 : List zJ := [(0, .aload_n 0, 1, []), (1, .iload_n 1, 1, []), (2, .invokevirtual 38, 3, [505, 506, 507, 105, 508]), (5, .ifCond .eq 12, 3, []), (8, .aload_n 0, 1, []), (9, .getfield 9, 3, [196]), (12, .iload_n 1, 1, []), (13, .iaload, 1, []), (14, .goto 4, 3, []), (17, .iconst 0, 1, []), (18, .ireturn, 1, [])]
def z_h16 : List (Nat × Nat × Nat × Nat × Nat × Nat × Nat) := []
def z_m17 : zMi := (RX1, yX1_pay, cX1_pay, 3, none, [])
def z_c17 : List zI := [(2, 0, 0, 0), (1, 1, 0, 0), (54, 9, 1, 0), (31, 16, 0, 0), (2, 0, 0, 0), (37, 0, 0, 0), (1, 1, 0, 0), (0, 0, 0, 0), (2, 0, 0, 0), (37, 0, 0, 0), (1, 1, 0, 0), (39, 0, 0, 0), (1, 2, 0, 0), (9, 0, 0, 0), (68, 0, 0, 0), (40, 0, 0, 0), (53, 0, 0, 0)]
def z_i17 : List zJ := [(0, .aload_n 0, 1, []), (1, .iload_n 1, 1, []), (2, .invokevirtual 38, 3, [505, 506, 507, 105, 508]), (5, .ifCond .eq 21, 3, []), (8, .aload_n 0, 1, []), (9, .getfield 9, 3, [196]), (12, .iload_n 1, 1, []), (13, .iconst 0, 1, []), (14, .aload_n 0, 1, []), (15, .getfield 9, 3, [196]), (18, .iload_n 1, 1, []), (19, .iaload, 1, []), (20, .iload_n 2, 1, []), (21, .isub, 1, []), (22, .invokestatic 42, 3, [1170]), (25, .iastore, 1, []), (26, .return_, 1, [])]
def z_h17 : List (Nat × Nat × Nat × Nat × Nat × Nat × Nat) := []
def z_m18 : zMi := (RX1, yX1_earn, cX1_earn, 3, none, [])
def z_c18 : List zI := [(2, 0, 0, 0), (1, 1, 0, 0), (54, 9, 1, 0), (31, 16, 0, 0), (2, 0, 0, 0), (37, 0, 0, 0), (1, 1, 0, 0), (0, 0, 0, 9999), (2, 0, 0, 0), (37, 0, 0, 0), (1, 1, 0, 0), (39, 0, 0, 0), (1, 2, 0, 0), (8, 0, 0, 0), (67, 0, 0, 0), (40, 0, 0, 0), (53, 0, 0, 0)]
def z_i18 : List zJ := [(0, .aload_n 0, 1, []), (1, .iload_n 1, 1, []), (2, .invokevirtual 38, 3, [505, 506, 507, 105, 508]), (5, .ifCond .eq 23, 3, []), (8, .aload_n 0, 1, []), (9, .getfield 9, 3, [196]), (12, .iload_n 1, 1, []), (13, .sipush 9999, 3, []), (16, .aload_n 0, 1, []), (17, .getfield 9, 3, [196]), (20, .iload_n 1, 1, []), (21, .iaload, 1, []), (22, .iload_n 2, 1, []), (23, .iadd, 1, []), (24, .invokestatic 48, 3, [1177]), (27, .iastore, 1, []), (28, .return_, 1, [])]
def z_h18 : List (Nat × Nat × Nat × Nat × Nat × Nat × Nat) := []
def z_m19 : zMi := (RX1, yX1_allPurses, cX1_allPurses, 3, some .int, [])
def z_c19 : List zI := [(0, 0, 0, 0), (4, 1, 0, 0), (0, 0, 0, 0), (4, 2, 0, 0), (1, 2, 0, 0), (2, 0, 0, 0), (37, 0, 4, 0), (32, 17, 3, 0), (1, 1, 0, 0), (2, 0, 0, 0), (37, 0, 0, 0), (1, 2, 0, 0), (39, 0, 0, 0), (8, 0, 0, 0), (4, 1, 0, 0), (7, 2, 0, 1), (30, 4, 0, 0), (1, 1, 0, 0), (50, 0, 0, 0)]
def z_i19 : List zJ := [(0, .iconst 0, 1, []), (1, .istore_n 1, 1, []), (2, .iconst 0, 1, []), (3, .istore_n 2, 1, []), (4, .iload_n 2, 1, []), (5, .aload_n 0, 1, []), (6, .getfield 24, 3, [207]), (9, .if_icmp .ge 18, 3, []), (12, .iload_n 1, 1, []), (13, .aload_n 0, 1, []), (14, .getfield 9, 3, [196]), (17, .iload_n 2, 1, []), (18, .iaload, 1, []), (19, .iadd, 1, []), (20, .istore_n 1, 1, []), (21, .iinc 2 1, 3, []), (24, .goto (-20), 3, []), (27, .iload_n 1, 1, []), (28, .ireturn, 1, [])]
def z_h19 : List (Nat × Nat × Nat × Nat × Nat × Nat × Nat) := []
def z_m20 : zMi := (RX1, yX1_dusters, cX1_dusters, 4, some .int, [])
def z_c20 : List zI := [(0, 0, 0, 0), (4, 2, 0, 0), (0, 0, 0, 0), (4, 3, 0, 0), (1, 3, 0, 0), (2, 0, 0, 0), (37, 0, 4, 0), (32, 22, 3, 0), (2, 0, 0, 0), (37, 0, 1, 0), (1, 3, 0, 0), (39, 0, 0, 0), (1, 1, 0, 0), (32, 20, 1, 0), (1, 2, 0, 0), (0, 0, 0, 1), (1, 3, 0, 0), (13, 0, 0, 0), (17, 0, 0, 0), (4, 2, 0, 0), (7, 3, 0, 1), (30, 4, 0, 0), (1, 2, 0, 0), (50, 0, 0, 0)]
def z_i20 : List zJ := [(0, .iconst 0, 1, []), (1, .istore_n 2, 1, []), (2, .iconst 0, 1, []), (3, .istore_n 3, 1, []), (4, .iload_n 3, 1, []), (5, .aload_n 0, 1, []), (6, .getfield 24, 3, [207]), (9, .if_icmp .ge 25, 3, []), (12, .aload_n 0, 1, []), (13, .getfield 15, 3, [198]), (16, .iload_n 3, 1, []), (17, .iaload, 1, []), (18, .iload_n 1, 1, []), (19, .if_icmp .ne 9, 3, []), (22, .iload_n 2, 1, []), (23, .iconst 1, 1, []), (24, .iload_n 3, 1, []), (25, .ishl, 1, []), (26, .ior, 1, []), (27, .istore_n 2, 1, []), (28, .iinc 3 1, 3, []), (31, .goto (-27), 3, []), (34, .iload_n 2, 1, []), (35, .ireturn, 1, [])]
def z_h20 : List (Nat × Nat × Nat × Nat × Nat × Nat × Nat) := []
def z_m21 : zMi := (RX1, yX1_commonDust, cX1_commonDust, 3, some .int, [])
def z_c21 : List zI := [(0, 0, 0, 0), (4, 1, 0, 0), (0, 0, 0, 1), (4, 2, 0, 0), (1, 2, 0, 0), (0, 0, 0, 9), (32, 20, 4, 0), (2, 0, 0, 0), (1, 2, 0, 0), (54, 20, 1, 0), (55, 311, 1, 0), (2, 0, 0, 0), (1, 1, 0, 0), (54, 20, 1, 0), (55, 311, 1, 0), (32, 18, 5, 0), (1, 2, 0, 0), (4, 1, 0, 0), (7, 2, 0, 1), (30, 4, 0, 0), (1, 1, 0, 0), (50, 0, 0, 0)]
def z_i21 : List zJ := [(0, .iconst 0, 1, []), (1, .istore_n 1, 1, []), (2, .iconst 1, 1, []), (3, .istore_n 2, 1, []), (4, .iload_n 2, 1, []), (5, .bipush 9, 2, []), (7, .if_icmp .gt 30, 3, []), (10, .aload_n 0, 1, []), (11, .iload_n 2, 1, []), (12, .invokevirtual 51, 3, [537, 538, 539, 105, 540]), (15, .invokestatic 55, 3, [541, 482, 126, 483]), (18, .aload_n 0, 1, []), (19, .iload_n 1, 1, []), (20, .invokevirtual 51, 3, [537, 538, 539, 105, 540]), (23, .invokestatic 55, 3, [541, 482, 126, 483]), (26, .if_icmp .le 5, 3, []), (29, .iload_n 2, 1, []), (30, .istore_n 1, 1, []), (31, .iinc 2 1, 3, []), (34, .goto (-30), 3, []), (37, .iload_n 1, 1, []), (38, .ireturn, 1, [])]
def z_h21 : List (Nat × Nat × Nat × Nat × Nat × Nat × Nat) := []
def z_m22 : zMi := (RX2, yX2_init, cX2_init, 1, none, [])
def z_c22 : List zI := [(2, 0, 0, 0), (57, 0, 0, 0), (2, 0, 0, 0), (0, 0, 0, 24), (47, 0, 0, 0), (38, 1, 0, 2), (2, 0, 0, 0), (49, 0, 0, 0), (27, 0, 0, 0), (73, 7, 0, 0), (38, 1, 1, 2), (2, 0, 0, 0), (49, 7, 0, 0), (27, 0, 0, 0), (73, 100, 0, 0), (38, 1, 2, 2), (2, 0, 0, 0), (49, 4, 0, 0), (27, 0, 0, 0), (73, 55, 0, 0), (38, 1, 3, 2), (2, 0, 0, 0), (0, 0, 0, 8), (47, 0, 0, 0), (38, 1, 4, 2), (2, 0, 0, 0), (63, 0, 0, 0), (38, 1, 5, 2), (2, 0, 0, 0), (0, 0, 0, 0), (38, 1, 6, 0), (2, 0, 0, 0), (0, 0, 0, 0), (38, 1, 7, 0), (2, 0, 0, 0), (0, 0, 0, 0), (38, 1, 8, 0), (2, 0, 0, 0), (0, 0, 0, 10), (38, 1, 9, 0), (2, 0, 0, 0), (0, 0, 0, 0), (38, 1, 10, 0), (2, 0, 0, 0), (0, 0, 0, 0), (38, 1, 11, 0), (2, 0, 0, 0), (0, 0, 0, -1), (38, 1, 12, 0), (2, 0, 0, 0), (0, 0, 0, 1), (38, 1, 13, 0), (2, 0, 0, 0), (0, 0, 0, 2), (38, 1, 14, 0), (2, 0, 0, 0), (0, 0, 0, 10), (38, 1, 15, 0), (2, 0, 0, 0), (0, 0, 0, 0), (38, 1, 16, 0), (2, 0, 0, 0), (0, 0, 0, 1), (38, 1, 17, 0), (2, 0, 0, 0), (37, 1, 0, 0), (0, 0, 0, -1), (55, 313, 2, 0), (53, 0, 0, 0)]
def z_i22 : List zJ := [(0, .aload_n 0, 1, []), (1, .invokespecial 3, 3, [189, 136, 137]), (4, .aload_n 0, 1, []), (5, .bipush 24, 2, []), (7, .newarray .int, 2, [158]), (9, .putfield 9, 3, [269]), (12, .aload_n 0, 1, []), (13, .new 15, 3, [190, 191, 105]), (16, .dup, 1, []), (17, .invokespecial 17, 3, [193, 105, 194]), (20, .putfield 18, 3, [271]), (23, .aload_n 0, 1, []), (24, .new 22, 3, [223, 224, 106]), (27, .dup, 1, []), (28, .invokespecial 24, 3, [226, 106, 227]), (31, .putfield 25, 3, [276]), (34, .aload_n 0, 1, []), (35, .new 29, 3, [249, 250, 107]), (38, .dup, 1, []), (39, .invokespecial 31, 3, [252, 107, 253]), (42, .putfield 32, 3, [279]), (45, .aload_n 0, 1, []), (46, .bipush 8, 2, []), (48, .newarray .int, 2, [158]), (50, .putfield 38, 3, [281]), (53, .aload_n 0, 1, []), (54, .aconst_null, 1, []), (55, .putfield 41, 3, [282]), (58, .aload_n 0, 1, []), (59, .iconst 0, 1, []), (60, .putfield 45, 3, [284]), (63, .aload_n 0, 1, []), (64, .iconst 0, 1, []), (65, .putfield 49, 3, [286]), (68, .aload_n 0, 1, []), (69, .iconst 0, 1, []), (70, .putfield 52, 3, [289]), (73, .aload_n 0, 1, []), (74, .bipush 10, 2, []), (76, .putfield 55, 3, [290]), (79, .aload_n 0, 1, []), (80, .iconst 0, 1, []), (81, .putfield 58, 3, [292]), (84, .aload_n 0, 1, []), (85, .iconst 0, 1, []), (86, .putfield 61, 3, [294]), (89, .aload_n 0, 1, []), (90, .iconst (-1), 1, []), (91, .putfield 64, 3, [296]), (94, .aload_n 0, 1, []), (95, .iconst 1, 1, []), (96, .putfield 67, 3, [297]), (99, .aload_n 0, 1, []), (100, .iconst 2, 1, []), (101, .putfield 70, 3, [299]), (104, .aload_n 0, 1, []), (105, .bipush 10, 2, []), (107, .putfield 73, 3, [301]), (110, .aload_n 0, 1, []), (111, .iconst 0, 1, []), (112, .putfield 76, 3, [305]), (115, .aload_n 0, 1, []), (116, .iconst 1, 1, []), (117, .putfield 79, 3, [307]), (120, .aload_n 0, 1, []), (121, .getfield 9, 3, [269]), (124, .iconst (-1), 1, []), (125, .invokestatic 82, 3, [266, 267, 108, 268]), (128, .return_, 1, [])]
def z_h22 : List (Nat × Nat × Nat × Nat × Nat × Nat × Nat) := []
def z_m23 : zMi := (RX2, yX2_copyFrom, cX2_copyFrom, 2, none, [])
def z_c23 : List zI := [(2, 1, 0, 0), (37, 1, 0, 0), (0, 0, 0, 0), (2, 0, 0, 0), (37, 1, 0, 0), (0, 0, 0, 0), (0, 0, 0, 24), (61, 0, 0, 0), (2, 0, 0, 0), (37, 1, 1, 0), (2, 1, 0, 0), (37, 1, 1, 0), (54, 8, 1, 0), (2, 0, 0, 0), (37, 1, 2, 0), (2, 1, 0, 0), (37, 1, 2, 0), (54, 101, 1, 7), (2, 0, 0, 0), (37, 1, 3, 0), (2, 1, 0, 0), (37, 1, 3, 0), (54, 56, 1, 4), (2, 0, 0, 0), (2, 1, 0, 0), (37, 1, 5, 0), (38, 1, 5, 2), (2, 0, 0, 0), (2, 1, 0, 0), (37, 1, 6, 0), (38, 1, 6, 0), (2, 0, 0, 0), (2, 1, 0, 0), (37, 1, 7, 0), (38, 1, 7, 0), (2, 0, 0, 0), (2, 1, 0, 0), (37, 1, 8, 0), (38, 1, 8, 0), (2, 0, 0, 0), (2, 1, 0, 0), (37, 1, 9, 0), (38, 1, 9, 0), (2, 0, 0, 0), (2, 1, 0, 0), (37, 1, 10, 0), (38, 1, 10, 0), (2, 0, 0, 0), (2, 1, 0, 0), (37, 1, 11, 0), (38, 1, 11, 0), (2, 0, 0, 0), (2, 1, 0, 0), (37, 1, 12, 0), (38, 1, 12, 0), (2, 0, 0, 0), (2, 1, 0, 0), (37, 1, 13, 0), (38, 1, 13, 0), (2, 0, 0, 0), (2, 1, 0, 0), (37, 1, 14, 0), (38, 1, 14, 0), (2, 0, 0, 0), (2, 1, 0, 0), (37, 1, 15, 0), (38, 1, 15, 0), (2, 0, 0, 0), (2, 1, 0, 0), (37, 1, 16, 0), (38, 1, 16, 0), (2, 0, 0, 0), (2, 1, 0, 0), (37, 1, 17, 0), (38, 1, 17, 0), (53, 0, 0, 0)]
def z_i23 : List zJ := [(0, .aload_n 1, 1, []), (1, .getfield 9, 3, [269]), (4, .iconst 0, 1, []), (5, .aload_n 0, 1, []), (6, .getfield 9, 3, [269]), (9, .iconst 0, 1, []), (10, .bipush 24, 2, []), (12, .invokestatic 88, 3, [419]), (15, .aload_n 0, 1, []), (16, .getfield 18, 3, [271]), (19, .aload_n 1, 1, []), (20, .getfield 18, 3, [271]), (23, .invokevirtual 94, 3, [422, 423, 424, 105, 425]), (26, .aload_n 0, 1, []), (27, .getfield 25, 3, [276]), (30, .aload_n 1, 1, []), (31, .getfield 25, 3, [276]), (34, .invokevirtual 98, 3, [427, 428, 429, 106, 430]), (37, .aload_n 0, 1, []), (38, .getfield 32, 3, [279]), (41, .aload_n 1, 1, []), (42, .getfield 32, 3, [279]), (45, .invokevirtual 101, 3, [432, 433, 434, 107, 435]), (48, .aload_n 0, 1, []), (49, .aload_n 1, 1, []), (50, .getfield 41, 3, [282]), (53, .putfield 41, 3, [282]), (56, .aload_n 0, 1, []), (57, .aload_n 1, 1, []), (58, .getfield 45, 3, [284]), (61, .putfield 45, 3, [284]), (64, .aload_n 0, 1, []), (65, .aload_n 1, 1, []), (66, .getfield 49, 3, [286]), (69, .putfield 49, 3, [286]), (72, .aload_n 0, 1, []), (73, .aload_n 1, 1, []), (74, .getfield 52, 3, [289]), (77, .putfield 52, 3, [289]), (80, .aload_n 0, 1, []), (81, .aload_n 1, 1, []), (82, .getfield 55, 3, [290]), (85, .putfield 55, 3, [290]), (88, .aload_n 0, 1, []), (89, .aload_n 1, 1, []), (90, .getfield 58, 3, [292]), (93, .putfield 58, 3, [292]), (96, .aload_n 0, 1, []), (97, .aload_n 1, 1, []), (98, .getfield 61, 3, [294]), (101, .putfield 61, 3, [294]), (104, .aload_n 0, 1, []), (105, .aload_n 1, 1, []), (106, .getfield 64, 3, [296]), (109, .putfield 64, 3, [296]), (112, .aload_n 0, 1, []), (113, .aload_n 1, 1, []), (114, .getfield 67, 3, [297]), (117, .putfield 67, 3, [297]), (120, .aload_n 0, 1, []), (121, .aload_n 1, 1, []), (122, .getfield 70, 3, [299]), (125, .putfield 70, 3, [299]), (128, .aload_n 0, 1, []), (129, .aload_n 1, 1, []), (130, .getfield 73, 3, [301]), (133, .putfield 73, 3, [301]), (136, .aload_n 0, 1, []), (137, .aload_n 1, 1, []), (138, .getfield 76, 3, [305]), (141, .putfield 76, 3, [305]), (144, .aload_n 0, 1, []), (145, .aload_n 1, 1, []), (146, .getfield 79, 3, [307]), (149, .putfield 79, 3, [307]), (152, .return_, 1, [])]
def z_h23 : List (Nat × Nat × Nat × Nat × Nat × Nat × Nat) := []
def z_m24 : zMi := (RX2, yX2_reading, cX2_reading, 2, some .int, [])
def z_c24 : List zI := [(1, 1, 0, 0), (35, 0, 0, 0), (2, 0, 0, 0), (37, 1, 7, 0), (50, 0, 0, 0), (2, 0, 0, 0), (37, 1, 8, 0), (50, 0, 0, 0), (2, 0, 0, 0), (37, 1, 9, 0), (50, 0, 0, 0), (2, 0, 0, 0), (37, 1, 10, 0), (50, 0, 0, 0), (2, 0, 0, 0), (37, 1, 11, 0), (50, 0, 0, 0), (2, 0, 0, 0), (37, 1, 12, 0), (50, 0, 0, 0), (2, 0, 0, 0), (37, 1, 13, 0), (50, 0, 0, 0), (2, 0, 0, 0), (37, 1, 14, 0), (50, 0, 0, 0), (2, 0, 0, 0), (37, 1, 15, 0), (50, 0, 0, 0), (2, 0, 0, 0), (37, 1, 16, 0), (50, 0, 0, 0), (0, 0, 0, -1), (50, 0, 0, 0)]
def z_i24 : List zJ := [(0, .iload_n 1, 1, []), (1, .tableswitch 105 4 13 #[55, 60, 65, 70, 75, 80, 85, 90, 95, 100], 55, []), (56, .aload_n 0, 1, []), (57, .getfield 49, 3, [286]), (60, .ireturn, 1, []), (61, .aload_n 0, 1, []), (62, .getfield 52, 3, [289]), (65, .ireturn, 1, []), (66, .aload_n 0, 1, []), (67, .getfield 55, 3, [290]), (70, .ireturn, 1, []), (71, .aload_n 0, 1, []), (72, .getfield 58, 3, [292]), (75, .ireturn, 1, []), (76, .aload_n 0, 1, []), (77, .getfield 61, 3, [294]), (80, .ireturn, 1, []), (81, .aload_n 0, 1, []), (82, .getfield 64, 3, [296]), (85, .ireturn, 1, []), (86, .aload_n 0, 1, []), (87, .getfield 67, 3, [297]), (90, .ireturn, 1, []), (91, .aload_n 0, 1, []), (92, .getfield 70, 3, [299]), (95, .ireturn, 1, []), (96, .aload_n 0, 1, []), (97, .getfield 73, 3, [301]), (100, .ireturn, 1, []), (101, .aload_n 0, 1, []), (102, .getfield 76, 3, [305]), (105, .ireturn, 1, []), (106, .iconst (-1), 1, []), (107, .ireturn, 1, [])]
def z_h24 : List (Nat × Nat × Nat × Nat × Nat × Nat × Nat) := []
def z_m25 : zMi := (RX2, yX2_lawLines, cX2_lawLines, 1, some .int, [])
def z_c25 : List zI := [(2, 0, 0, 0), (37, 1, 5, 0), (33, 5, 0, 0), (0, 0, 0, -1), (30, 8, 0, 0), (2, 0, 0, 0), (37, 1, 5, 0), (37, 2, 0, 0), (50, 0, 0, 0)]
def z_i25 : List zJ := [(0, .aload_n 0, 1, []), (1, .getfield 41, 3, [282]), (4, .ifnonnull 7, 3, []), (7, .iconst (-1), 1, []), (8, .goto 10, 3, []), (11, .aload_n 0, 1, []), (12, .getfield 41, 3, [282]), (15, .getfield 104, 3, [970]), (18, .ireturn, 1, [])]
def z_h25 : List (Nat × Nat × Nat × Nat × Nat × Nat × Nat) := []
def z_m26 : zMi := (RX2, yX2_holderAt, cX2_holderAt, 2, some .int, [])
def z_c26 : List zI := [(2, 0, 0, 0), (37, 1, 0, 0), (1, 1, 0, 0), (0, 0, 0, 24), (55, 312, 2, 0), (39, 0, 0, 0), (50, 0, 0, 0)]
def z_i26 : List zJ := [(0, .aload_n 0, 1, []), (1, .getfield 9, 3, [269]), (4, .iload_n 1, 1, []), (5, .bipush 24, 2, []), (7, .invokestatic 107, 3, [451, 452, 117, 453]), (10, .iaload, 1, []), (11, .ireturn, 1, [])]
def z_h26 : List (Nat × Nat × Nat × Nat × Nat × Nat × Nat) := []
def z_m27 : zMi := (RX2, yX2_inside, cX2_inside, 1, some .int, [])
def z_c27 : List zI := [(2, 0, 0, 0), (2, 0, 0, 0), (37, 1, 7, 0), (54, 26, 1, 1), (50, 0, 0, 0)]
def z_i27 : List zJ := [(0, .aload_n 0, 1, []), (1, .aload_n 0, 1, []), (2, .getfield 49, 3, [286]), (5, .invokevirtual 113, 3, [577, 448, 449, 104, 450]), (8, .ireturn, 1, [])]
def z_h27 : List (Nat × Nat × Nat × Nat × Nat × Nat × Nat) := []
def z_m28 : zMi := (RX2, yX2_heldBy, cX2_heldBy, 4, some .int, [])
def z_c28 : List zI := [(0, 0, 0, 0), (4, 2, 0, 0), (0, 0, 0, 0), (4, 3, 0, 0), (1, 3, 0, 0), (0, 0, 0, 24), (32, 31, 3, 0), (2, 0, 0, 0), (37, 1, 0, 0), (1, 3, 0, 0), (39, 0, 0, 0), (0, 0, 0, -1), (32, 29, 0, 0), (1, 1, 0, 0), (2, 0, 0, 0), (37, 1, 0, 0), (1, 3, 0, 0), (39, 0, 0, 0), (14, 0, 0, 0), (0, 0, 0, 1), (16, 0, 0, 0), (0, 0, 0, 1), (32, 29, 1, 0), (1, 2, 0, 0), (0, 0, 0, 1), (1, 3, 0, 0), (13, 0, 0, 0), (17, 0, 0, 0), (4, 2, 0, 0), (7, 3, 0, 1), (30, 4, 0, 0), (1, 2, 0, 0), (50, 0, 0, 0)]
def z_i28 : List zJ := [(0, .iconst 0, 1, []), (1, .istore_n 2, 1, []), (2, .iconst 0, 1, []), (3, .istore_n 3, 1, []), (4, .iload_n 3, 1, []), (5, .bipush 24, 2, []), (7, .if_icmp .ge 39, 3, []), (10, .aload_n 0, 1, []), (11, .getfield 9, 3, [269]), (14, .iload_n 3, 1, []), (15, .iaload, 1, []), (16, .iconst (-1), 1, []), (17, .if_icmp .eq 23, 3, []), (20, .iload_n 1, 1, []), (21, .aload_n 0, 1, []), (22, .getfield 9, 3, [269]), (25, .iload_n 3, 1, []), (26, .iaload, 1, []), (27, .ishr, 1, []), (28, .iconst 1, 1, []), (29, .iand, 1, []), (30, .iconst 1, 1, []), (31, .if_icmp .ne 9, 3, []), (34, .iload_n 2, 1, []), (35, .iconst 1, 1, []), (36, .iload_n 3, 1, []), (37, .ishl, 1, []), (38, .ior, 1, []), (39, .istore_n 2, 1, []), (40, .iinc 3 1, 3, []), (43, .goto (-39), 3, []), (46, .iload_n 2, 1, []), (47, .ireturn, 1, [])]
def z_h28 : List (Nat × Nat × Nat × Nat × Nat × Nat × Nat) := []
def z_m29 : zMi := (RX2, yX2_giveHours, cX2_giveHours, 4, none, [])
def z_c29 : List zI := [(0, 0, 0, 0), (4, 3, 0, 0), (1, 3, 0, 0), (0, 0, 0, 24), (32, 19, 3, 0), (1, 1, 0, 0), (1, 3, 0, 0), (14, 0, 0, 0), (0, 0, 0, 1), (16, 0, 0, 0), (0, 0, 0, 1), (32, 17, 1, 0), (2, 0, 0, 0), (37, 1, 0, 0), (1, 3, 0, 0), (1, 2, 0, 0), (40, 0, 0, 0), (7, 3, 0, 1), (30, 2, 0, 0), (53, 0, 0, 0)]
def z_i29 : List zJ := [(0, .iconst 0, 1, []), (1, .istore_n 3, 1, []), (2, .iload_n 3, 1, []), (3, .bipush 24, 2, []), (5, .if_icmp .ge 25, 3, []), (8, .iload_n 1, 1, []), (9, .iload_n 3, 1, []), (10, .ishr, 1, []), (11, .iconst 1, 1, []), (12, .iand, 1, []), (13, .iconst 1, 1, []), (14, .if_icmp .ne 10, 3, []), (17, .aload_n 0, 1, []), (18, .getfield 9, 3, [269]), (21, .iload_n 3, 1, []), (22, .iload_n 2, 1, []), (23, .iastore, 1, []), (24, .iinc 3 1, 3, []), (27, .goto (-25), 3, []), (30, .return_, 1, [])]
def z_h29 : List (Nat × Nat × Nat × Nat × Nat × Nat × Nat) := []
def z_m30 : zMi := (RX2, yX2_warmsBy, cX2_warmsBy, 3, some .int, [])
def z_c30 : List zI := [(2, 0, 0, 0), (37, 1, 1, 0), (1, 1, 0, 0), (54, 9, 1, 0), (31, 7, 1, 0), (0, 0, 0, 0), (50, 0, 0, 0), (2, 0, 0, 0), (1, 1, 0, 0), (1, 2, 0, 0), (54, 33, 2, 1), (2, 0, 0, 0), (37, 1, 1, 0), (37, 0, 2, 0), (1, 1, 0, 0), (39, 0, 0, 0), (2, 0, 0, 0), (37, 1, 5, 0), (33, 21, 0, 0), (0, 0, 0, 0), (30, 27, 0, 0), (2, 0, 0, 0), (37, 1, 5, 0), (0, 0, 0, 0), (2, 0, 0, 0), (37, 1, 4, 0), (54, 42, 2, 2), (8, 0, 0, 0), (50, 0, 0, 0)]
def z_i30 : List zJ := [(0, .aload_n 0, 1, []), (1, .getfield 18, 3, [271]), (4, .iload_n 1, 1, []), (5, .invokevirtual 117, 3, [1078, 506, 507, 105, 508]), (8, .ifCond .ne 5, 3, []), (11, .iconst 0, 1, []), (12, .ireturn, 1, []), (13, .aload_n 0, 1, []), (14, .iload_n 1, 1, []), (15, .iload_n 2, 1, []), (16, .invokevirtual 121, 3, [1079, 1081, 11, 104, 1082]), (19, .aload_n 0, 1, []), (20, .getfield 18, 3, [271]), (23, .getfield 125, 3, [203]), (26, .iload_n 1, 1, []), (27, .iaload, 1, []), (28, .aload_n 0, 1, []), (29, .getfield 41, 3, [282]), (32, .ifnonnull 7, 3, []), (35, .iconst 0, 1, []), (36, .goto 15, 3, []), (39, .aload_n 0, 1, []), (40, .getfield 41, 3, [282]), (43, .iconst 0, 1, []), (44, .aload_n 0, 1, []), (45, .getfield 38, 3, [281]), (48, .invokevirtual 128, 3, [1090, 1091, 1092, 123, 1093]), (51, .iadd, 1, []), (52, .ireturn, 1, [])]
def z_h30 : List (Nat × Nat × Nat × Nat × Nat × Nat × Nat) := []
def z_m31 : zMi := (RX2, yX2_dustsBy, cX2_dustsBy, 3, some .int, [])
def z_c31 : List zI := [(2, 0, 0, 0), (37, 1, 1, 0), (1, 1, 0, 0), (54, 9, 1, 0), (31, 7, 1, 0), (0, 0, 0, 0), (50, 0, 0, 0), (2, 0, 0, 0), (1, 1, 0, 0), (1, 2, 0, 0), (54, 33, 2, 1), (2, 0, 0, 0), (37, 1, 1, 0), (37, 0, 1, 0), (1, 1, 0, 0), (39, 0, 0, 0), (2, 0, 0, 0), (37, 1, 5, 0), (33, 21, 0, 0), (0, 0, 0, 0), (30, 27, 0, 0), (2, 0, 0, 0), (37, 1, 5, 0), (0, 0, 0, 1), (2, 0, 0, 0), (37, 1, 4, 0), (54, 42, 2, 2), (8, 0, 0, 0), (50, 0, 0, 0)]
def z_i31 : List zJ := [(0, .aload_n 0, 1, []), (1, .getfield 18, 3, [271]), (4, .iload_n 1, 1, []), (5, .invokevirtual 117, 3, [1078, 506, 507, 105, 508]), (8, .ifCond .ne 5, 3, []), (11, .iconst 0, 1, []), (12, .ireturn, 1, []), (13, .aload_n 0, 1, []), (14, .iload_n 1, 1, []), (15, .iload_n 2, 1, []), (16, .invokevirtual 121, 3, [1079, 1081, 11, 104, 1082]), (19, .aload_n 0, 1, []), (20, .getfield 18, 3, [271]), (23, .getfield 132, 3, [200]), (26, .iload_n 1, 1, []), (27, .iaload, 1, []), (28, .aload_n 0, 1, []), (29, .getfield 41, 3, [282]), (32, .ifnonnull 7, 3, []), (35, .iconst 0, 1, []), (36, .goto 15, 3, []), (39, .aload_n 0, 1, []), (40, .getfield 41, 3, [282]), (43, .iconst 1, 1, []), (44, .aload_n 0, 1, []), (45, .getfield 38, 3, [281]), (48, .invokevirtual 128, 3, [1090, 1091, 1092, 123, 1093]), (51, .iadd, 1, []), (52, .ireturn, 1, [])]
def z_h31 : List (Nat × Nat × Nat × Nat × Nat × Nat × Nat) := []
def z_m32 : zMi := (RX2, yX2_finedBy, cX2_finedBy, 2, some .int, [])
def z_c32 : List zI := [(2, 0, 0, 0), (37, 1, 2, 0), (1, 1, 0, 0), (54, 102, 1, 7), (31, 7, 1, 0), (0, 0, 0, 0), (50, 0, 0, 0), (2, 0, 0, 0), (2, 0, 0, 0), (37, 1, 2, 0), (37, 7, 0, 0), (1, 1, 0, 0), (39, 0, 0, 0), (2, 0, 0, 0), (37, 1, 7, 0), (54, 33, 2, 1), (2, 0, 0, 0), (37, 1, 14, 0), (2, 0, 0, 0), (37, 1, 2, 0), (37, 7, 1, 0), (1, 1, 0, 0), (39, 0, 0, 0), (10, 0, 0, 0), (2, 0, 0, 0), (37, 1, 5, 0), (33, 29, 0, 0), (0, 0, 0, 0), (30, 35, 0, 0), (2, 0, 0, 0), (37, 1, 5, 0), (0, 0, 0, 2), (2, 0, 0, 0), (37, 1, 4, 0), (54, 42, 2, 2), (8, 0, 0, 0), (50, 0, 0, 0)]
def z_i32 : List zJ := [(0, .aload_n 0, 1, []), (1, .getfield 25, 3, [276]), (4, .iload_n 1, 1, []), (5, .invokevirtual 135, 3, [1132, 1120, 1121, 106, 1122]), (8, .ifCond .ne 5, 3, []), (11, .iconst 0, 1, []), (12, .ireturn, 1, []), (13, .aload_n 0, 1, []), (14, .aload_n 0, 1, []), (15, .getfield 25, 3, [276]), (18, .getfield 136, 3, [231]), (21, .iload_n 1, 1, []), (22, .iaload, 1, []), (23, .aload_n 0, 1, []), (24, .getfield 49, 3, [286]), (27, .invokevirtual 121, 3, [1079, 1081, 11, 104, 1082]), (30, .aload_n 0, 1, []), (31, .getfield 70, 3, [299]), (34, .aload_n 0, 1, []), (35, .getfield 25, 3, [276]), (38, .getfield 139, 3, [234]), (41, .iload_n 1, 1, []), (42, .iaload, 1, []), (43, .imul, 1, []), (44, .aload_n 0, 1, []), (45, .getfield 41, 3, [282]), (48, .ifnonnull 7, 3, []), (51, .iconst 0, 1, []), (52, .goto 15, 3, []), (55, .aload_n 0, 1, []), (56, .getfield 41, 3, [282]), (59, .iconst 2, 1, []), (60, .aload_n 0, 1, []), (61, .getfield 38, 3, [281]), (64, .invokevirtual 128, 3, [1090, 1091, 1092, 123, 1093]), (67, .iadd, 1, []), (68, .ireturn, 1, [])]
def z_h32 : List (Nat × Nat × Nat × Nat × Nat × Nat × Nat) := []
def z_m33 : zMi := (RX2, yX2_look, cX2_look, 3, none, [])
def z_c33 : List zI := [(2, 0, 0, 0), (37, 1, 4, 0), (0, 0, 0, 0), (1, 1, 0, 0), (40, 0, 0, 0), (2, 0, 0, 0), (37, 1, 4, 0), (0, 0, 0, 1), (1, 2, 0, 0), (40, 0, 0, 0), (2, 0, 0, 0), (37, 1, 4, 0), (0, 0, 0, 2), (2, 0, 0, 0), (37, 1, 9, 0), (40, 0, 0, 0), (2, 0, 0, 0), (37, 1, 4, 0), (0, 0, 0, 3), (2, 0, 0, 0), (37, 1, 10, 0), (40, 0, 0, 0), (2, 0, 0, 0), (37, 1, 4, 0), (0, 0, 0, 4), (2, 0, 0, 0), (37, 1, 11, 0), (40, 0, 0, 0), (2, 0, 0, 0), (37, 1, 4, 0), (0, 0, 0, 5), (2, 0, 0, 0), (37, 1, 2, 0), (54, 108, 0, 7), (40, 0, 0, 0), (2, 0, 0, 0), (37, 1, 4, 0), (0, 0, 0, 6), (0, 0, 0, 12582975), (1, 2, 0, 0), (14, 0, 0, 0), (0, 0, 0, 1), (16, 0, 0, 0), (40, 0, 0, 0), (2, 0, 0, 0), (37, 1, 4, 0), (0, 0, 0, 7), (2, 0, 0, 0), (37, 1, 1, 0), (1, 1, 0, 0), (1, 2, 0, 0), (54, 14, 2, 0), (31, 55, 0, 0), (0, 0, 0, 1), (30, 56, 0, 0), (0, 0, 0, 0), (40, 0, 0, 0), (53, 0, 0, 0)]
def z_i33 : List zJ := [(0, .aload_n 0, 1, []), (1, .getfield 38, 3, [281]), (4, .iconst 0, 1, []), (5, .iload_n 1, 1, []), (6, .iastore, 1, []), (7, .aload_n 0, 1, []), (8, .getfield 38, 3, [281]), (11, .iconst 1, 1, []), (12, .iload_n 2, 1, []), (13, .iastore, 1, []), (14, .aload_n 0, 1, []), (15, .getfield 38, 3, [281]), (18, .iconst 2, 1, []), (19, .aload_n 0, 1, []), (20, .getfield 55, 3, [290]), (23, .iastore, 1, []), (24, .aload_n 0, 1, []), (25, .getfield 38, 3, [281]), (28, .iconst 3, 1, []), (29, .aload_n 0, 1, []), (30, .getfield 58, 3, [292]), (33, .iastore, 1, []), (34, .aload_n 0, 1, []), (35, .getfield 38, 3, [281]), (38, .iconst 4, 1, []), (39, .aload_n 0, 1, []), (40, .getfield 61, 3, [294]), (43, .iastore, 1, []), (44, .aload_n 0, 1, []), (45, .getfield 38, 3, [281]), (48, .iconst 5, 1, []), (49, .aload_n 0, 1, []), (50, .getfield 25, 3, [276]), (53, .invokevirtual 142, 3, [1083, 1084, 1085, 106, 1086]), (56, .iastore, 1, []), (57, .aload_n 0, 1, []), (58, .getfield 38, 3, [281]), (61, .bipush 6, 2, []), (63, .ldc 146, 2, [1088]), (65, .iload_n 2, 1, []), (66, .ishr, 1, []), (67, .iconst 1, 1, []), (68, .iand, 1, []), (69, .iastore, 1, []), (70, .aload_n 0, 1, []), (71, .getfield 38, 3, [281]), (74, .bipush 7, 2, []), (76, .aload_n 0, 1, []), (77, .getfield 18, 3, [271]), (80, .iload_n 1, 1, []), (81, .iload_n 2, 1, []), (82, .invokevirtual 147, 3, [1089, 502, 503, 105, 504]), (85, .ifCond .eq 7, 3, []), (88, .iconst 1, 1, []), (89, .goto 4, 3, []), (92, .iconst 0, 1, []), (93, .iastore, 1, []), (94, .return_, 1, [])]
def z_h33 : List (Nat × Nat × Nat × Nat × Nat × Nat × Nat) := []
def z_m34 : zMi := (RX2, yX2_passHour, cX2_passHour, 5, some .int, [])
def z_c34 : List zI := [(2, 0, 0, 0), (54, 27, 0, 1), (4, 2, 0, 0), (1, 2, 0, 0), (0, 0, 0, -1), (32, 34, 0, 0), (2, 0, 0, 0), (1, 2, 0, 0), (2, 0, 0, 0), (37, 1, 7, 0), (54, 30, 2, 1), (4, 3, 0, 0), (2, 0, 0, 0), (1, 2, 0, 0), (2, 0, 0, 0), (37, 1, 7, 0), (54, 31, 2, 1), (4, 4, 0, 0), (2, 0, 0, 0), (0, 0, 0, 99), (2, 0, 0, 0), (37, 1, 9, 0), (1, 3, 0, 0), (8, 0, 0, 0), (67, 0, 0, 0), (38, 1, 9, 0), (2, 0, 0, 0), (0, 0, 0, 99), (2, 0, 0, 0), (37, 1, 10, 0), (1, 4, 0, 0), (8, 0, 0, 0), (67, 0, 0, 0), (38, 1, 10, 0), (2, 0, 0, 0), (0, 0, 0, 0), (2, 0, 0, 0), (37, 1, 9, 0), (2, 0, 0, 0), (37, 1, 13, 0), (9, 0, 0, 0), (68, 0, 0, 0), (38, 1, 9, 0), (1, 1, 0, 0), (31, 48, 0, 0), (2, 0, 0, 0), (1, 2, 0, 0), (54, 35, 1, 1), (2, 0, 0, 0), (54, 36, 0, 1), (1, 2, 0, 0), (0, 0, 0, -1), (32, 61, 0, 0), (1, 2, 0, 0), (2, 0, 0, 0), (54, 27, 0, 1), (32, 61, 0, 0), (2, 0, 0, 0), (1, 2, 0, 0), (54, 37, 1, 1), (30, 62, 0, 0), (0, 0, 0, 0), (50, 0, 0, 0)]
def z_i34 : List zJ := [(0, .aload_n 0, 1, []), (1, .invokevirtual 151, 3, [1242, 574, 575, 104, 576]), (4, .istore_n 2, 1, []), (5, .iload_n 2, 1, []), (6, .iconst (-1), 1, []), (7, .if_icmp .eq 55, 3, []), (10, .aload_n 0, 1, []), (11, .iload_n 2, 1, []), (12, .aload_n 0, 1, []), (13, .getfield 49, 3, [286]), (16, .invokevirtual 154, 3, [1243, 1075, 1076, 104, 1077]), (19, .istore_n 3, 1, []), (20, .aload_n 0, 1, []), (21, .iload_n 2, 1, []), (22, .aload_n 0, 1, []), (23, .getfield 49, 3, [286]), (26, .invokevirtual 157, 3, [1244, 1105, 1106, 104, 1107]), (29, .istore 4, 2, []), (31, .aload_n 0, 1, []), (32, .bipush 99, 2, []), (34, .aload_n 0, 1, []), (35, .getfield 55, 3, [290]), (38, .iload_n 3, 1, []), (39, .iadd, 1, []), (40, .invokestatic 160, 3, [1245]), (43, .putfield 55, 3, [290]), (46, .aload_n 0, 1, []), (47, .bipush 99, 2, []), (49, .aload_n 0, 1, []), (50, .getfield 58, 3, [292]), (53, .iload 4, 2, []), (55, .iadd, 1, []), (56, .invokestatic 160, 3, [1245]), (59, .putfield 58, 3, [292]), (62, .aload_n 0, 1, []), (63, .iconst 0, 1, []), (64, .aload_n 0, 1, []), (65, .getfield 55, 3, [290]), (68, .aload_n 0, 1, []), (69, .getfield 67, 3, [297]), (72, .isub, 1, []), (73, .invokestatic 163, 3, [1246]), (76, .putfield 55, 3, [290]), (79, .iload_n 1, 1, []), (80, .ifCond .eq 8, 3, []), (83, .aload_n 0, 1, []), (84, .iload_n 2, 1, []), (85, .invokevirtual 166, 3, [1247, 1249, 17, 104, 1250]), (88, .aload_n 0, 1, []), (89, .invokevirtual 170, 3, [1264, 1266, 19, 104, 1267]), (92, .iload_n 2, 1, []), (93, .iconst (-1), 1, []), (94, .if_icmp .eq 19, 3, []), (97, .iload_n 2, 1, []), (98, .aload_n 0, 1, []), (99, .invokevirtual 151, 3, [1242, 574, 575, 104, 576]), (102, .if_icmp .eq 11, 3, []), (105, .aload_n 0, 1, []), (106, .iload_n 2, 1, []), (107, .invokevirtual 173, 3, [1268, 1270, 20, 104, 1271]), (110, .goto 4, 3, []), (113, .iconst 0, 1, []), (114, .ireturn, 1, [])]
def z_h34 : List (Nat × Nat × Nat × Nat × Nat × Nat × Nat) := []
def z_m35 : zMi := (RX2, yX2_letVisitorsIn, cX2_letVisitorsIn, 2, none, [])
def z_c35 : List zI := [(2, 0, 0, 0), (2, 0, 0, 0), (37, 1, 17, 0), (55, 39, 1, 0), (38, 1, 17, 0), (1, 1, 0, 0), (0, 0, 0, -1), (32, 35, 0, 0), (2, 0, 0, 0), (2, 0, 0, 0), (37, 1, 17, 0), (54, 40, 1, 1), (31, 35, 0, 0), (2, 0, 0, 0), (0, 0, 0, 9), (2, 0, 0, 0), (37, 1, 11, 0), (0, 0, 0, 1), (8, 0, 0, 0), (67, 0, 0, 0), (38, 1, 11, 0), (2, 0, 0, 0), (1, 1, 0, 0), (38, 1, 12, 0), (2, 0, 0, 0), (37, 1, 3, 0), (2, 0, 0, 0), (37, 1, 8, 0), (2, 0, 0, 0), (37, 1, 7, 0), (1, 1, 0, 0), (0, 0, 0, 0), (2, 0, 0, 0), (37, 1, 11, 0), (54, 57, 5, 4), (53, 0, 0, 0)]
def z_i35 : List zJ := [(0, .aload_n 0, 1, []), (1, .aload_n 0, 1, []), (2, .getfield 79, 3, [307]), (5, .invokestatic 176, 3, [1251, 1252, 104, 1253]), (8, .putfield 79, 3, [307]), (11, .iload_n 1, 1, []), (12, .iconst (-1), 1, []), (13, .if_icmp .eq 55, 3, []), (16, .aload_n 0, 1, []), (17, .aload_n 0, 1, []), (18, .getfield 79, 3, [307]), (21, .invokevirtual 179, 3, [1255, 1257, 18, 104, 1258]), (24, .ifCond .eq 44, 3, []), (27, .aload_n 0, 1, []), (28, .bipush 9, 2, []), (30, .aload_n 0, 1, []), (31, .getfield 61, 3, [294]), (34, .iconst 1, 1, []), (35, .iadd, 1, []), (36, .invokestatic 160, 3, [1245]), (39, .putfield 61, 3, [294]), (42, .aload_n 0, 1, []), (43, .iload_n 1, 1, []), (44, .putfield 64, 3, [296]), (47, .aload_n 0, 1, []), (48, .getfield 32, 3, [279]), (51, .aload_n 0, 1, []), (52, .getfield 52, 3, [289]), (55, .aload_n 0, 1, []), (56, .getfield 49, 3, [286]), (59, .iload_n 1, 1, []), (60, .iconst 0, 1, []), (61, .aload_n 0, 1, []), (62, .getfield 61, 3, [294]), (65, .invokevirtual 182, 3, [1259, 1260, 1261, 107, 1262]), (68, .return_, 1, [])]
def z_h35 : List (Nat × Nat × Nat × Nat × Nat × Nat × Nat) := []
def z_m36 : zMi := (RX2, yX2_turnClock, cX2_turnClock, 1, none, [])
def z_c36 : List zI := [(2, 0, 0, 0), (27, 0, 0, 0), (37, 1, 7, 0), (0, 0, 0, 1), (8, 0, 0, 0), (38, 1, 7, 0), (2, 0, 0, 0), (37, 1, 7, 0), (0, 0, 0, 24), (32, 21, 2, 0), (2, 0, 0, 0), (0, 0, 0, 0), (38, 1, 7, 0), (2, 0, 0, 0), (0, 0, 0, 9999), (2, 0, 0, 0), (37, 1, 8, 0), (0, 0, 0, 1), (8, 0, 0, 0), (67, 0, 0, 0), (38, 1, 8, 0), (53, 0, 0, 0)]
def z_i36 : List zJ := [(0, .aload_n 0, 1, []), (1, .dup, 1, []), (2, .getfield 49, 3, [286]), (5, .iconst 1, 1, []), (6, .iadd, 1, []), (7, .putfield 49, 3, [286]), (10, .aload_n 0, 1, []), (11, .getfield 49, 3, [286]), (14, .bipush 24, 2, []), (16, .if_icmp .lt 24, 3, []), (19, .aload_n 0, 1, []), (20, .iconst 0, 1, []), (21, .putfield 49, 3, [286]), (24, .aload_n 0, 1, []), (25, .sipush 9999, 3, []), (28, .aload_n 0, 1, []), (29, .getfield 52, 3, [289]), (32, .iconst 1, 1, []), (33, .iadd, 1, []), (34, .invokestatic 160, 3, [1245]), (37, .putfield 52, 3, [289]), (40, .return_, 1, [])]
def z_h36 : List (Nat × Nat × Nat × Nat × Nat × Nat × Nat) := []
def z_m37 : zMi := (RX2, yX2_fineThingsOf, cX2_fineThingsOf, 5, some .int, [])
def z_c37 : List zI := [(0, 0, 0, 0), (4, 2, 0, 0), (0, 0, 0, 0), (4, 3, 0, 0), (1, 3, 0, 0), (2, 0, 0, 0), (37, 1, 2, 0), (37, 7, 3, 0), (32, 47, 3, 0), (2, 0, 0, 0), (37, 1, 2, 0), (37, 7, 0, 0), (1, 3, 0, 0), (39, 0, 0, 0), (1, 1, 0, 0), (32, 45, 1, 0), (2, 0, 0, 0), (37, 1, 2, 0), (1, 3, 0, 0), (54, 105, 1, 7), (31, 45, 0, 0), (2, 0, 0, 0), (1, 3, 0, 0), (54, 32, 1, 1), (4, 4, 0, 0), (2, 0, 0, 0), (37, 1, 1, 0), (1, 1, 0, 0), (1, 4, 0, 0), (54, 17, 2, 0), (2, 0, 0, 0), (37, 1, 2, 0), (1, 3, 0, 0), (54, 107, 1, 7), (2, 0, 0, 0), (37, 1, 3, 0), (2, 0, 0, 0), (37, 1, 8, 0), (2, 0, 0, 0), (37, 1, 7, 0), (1, 1, 0, 0), (0, 0, 0, 1), (1, 4, 0, 0), (54, 57, 5, 4), (7, 2, 0, 1), (7, 3, 0, 1), (30, 4, 0, 0), (1, 2, 0, 0), (50, 0, 0, 0)]
def z_i37 : List zJ := [(0, .iconst 0, 1, []), (1, .istore_n 2, 1, []), (2, .iconst 0, 1, []), (3, .istore_n 3, 1, []), (4, .iload_n 3, 1, []), (5, .aload_n 0, 1, []), (6, .getfield 25, 3, [276]), (9, .getfield 186, 3, [238]), (12, .if_icmp .ge 80, 3, []), (15, .aload_n 0, 1, []), (16, .getfield 25, 3, [276]), (19, .getfield 136, 3, [231]), (22, .iload_n 3, 1, []), (23, .iaload, 1, []), (24, .iload_n 1, 1, []), (25, .if_icmp .ne 61, 3, []), (28, .aload_n 0, 1, []), (29, .getfield 25, 3, [276]), (32, .iload_n 3, 1, []), (33, .invokevirtual 189, 3, [1272, 1125, 1126, 106, 1127]), (36, .ifCond .eq 50, 3, []), (39, .aload_n 0, 1, []), (40, .iload_n 3, 1, []), (41, .invokevirtual 192, 3, [1273, 1129, 1130, 104, 1131]), (44, .istore 4, 2, []), (46, .aload_n 0, 1, []), (47, .getfield 18, 3, [271]), (50, .iload_n 1, 1, []), (51, .iload 4, 2, []), (53, .invokevirtual 195, 3, [1274, 1167, 1168, 105, 1169]), (56, .aload_n 0, 1, []), (57, .getfield 25, 3, [276]), (60, .iload_n 3, 1, []), (61, .invokevirtual 198, 3, [1275, 1216, 1217, 106, 1218]), (64, .aload_n 0, 1, []), (65, .getfield 32, 3, [279]), (68, .aload_n 0, 1, []), (69, .getfield 52, 3, [289]), (72, .aload_n 0, 1, []), (73, .getfield 49, 3, [286]), (76, .iload_n 1, 1, []), (77, .iconst 1, 1, []), (78, .iload 4, 2, []), (80, .invokevirtual 182, 3, [1259, 1260, 1261, 107, 1262]), (83, .iinc 2 1, 3, []), (86, .iinc 3 1, 3, []), (89, .goto (-85), 3, []), (92, .iload_n 2, 1, []), (93, .ireturn, 1, [])]
def z_h37 : List (Nat × Nat × Nat × Nat × Nat × Nat × Nat) := []
def z_m38 : zMi := (RX2, yX2_quarrelAfter, cX2_quarrelAfter, 6, some .int, [])
def z_c38 : List zI := [(1, 2, 0, 0), (4, 3, 0, 0), (2, 0, 0, 0), (37, 1, 11, 0), (4, 4, 0, 0), (0, 0, 0, 0), (4, 5, 0, 0), (1, 5, 0, 0), (1, 1, 0, 0), (32, 33, 3, 0), (1, 3, 0, 0), (55, 39, 1, 0), (4, 3, 0, 0), (2, 0, 0, 0), (2, 0, 0, 0), (37, 1, 7, 0), (1, 5, 0, 0), (8, 0, 0, 0), (54, 26, 1, 1), (0, 0, 0, -1), (32, 31, 0, 0), (2, 0, 0, 0), (1, 3, 0, 0), (54, 40, 1, 1), (31, 31, 0, 0), (0, 0, 0, 9), (1, 4, 0, 0), (0, 0, 0, 1), (8, 0, 0, 0), (67, 0, 0, 0), (4, 4, 0, 0), (7, 5, 0, 1), (30, 7, 0, 0), (1, 4, 0, 0), (50, 0, 0, 0)]
def z_i38 : List zJ := [(0, .iload_n 2, 1, []), (1, .istore_n 3, 1, []), (2, .aload_n 0, 1, []), (3, .getfield 61, 3, [294]), (6, .istore 4, 2, []), (8, .iconst 0, 1, []), (9, .istore 5, 2, []), (11, .iload 5, 2, []), (13, .iload_n 1, 1, []), (14, .if_icmp .ge 48, 3, []), (17, .iload_n 3, 1, []), (18, .invokestatic 176, 3, [1251, 1252, 104, 1253]), (21, .istore_n 3, 1, []), (22, .aload_n 0, 1, []), (23, .aload_n 0, 1, []), (24, .getfield 49, 3, [286]), (27, .iload 5, 2, []), (29, .iadd, 1, []), (30, .invokevirtual 113, 3, [577, 448, 449, 104, 450]), (33, .iconst (-1), 1, []), (34, .if_icmp .eq 22, 3, []), (37, .aload_n 0, 1, []), (38, .iload_n 3, 1, []), (39, .invokevirtual 179, 3, [1255, 1257, 18, 104, 1258]), (42, .ifCond .eq 14, 3, []), (45, .bipush 9, 2, []), (47, .iload 4, 2, []), (49, .iconst 1, 1, []), (50, .iadd, 1, []), (51, .invokestatic 160, 3, [1245]), (54, .istore 4, 2, []), (56, .iinc 5 1, 3, []), (59, .goto (-48), 3, []), (62, .iload 4, 2, []), (64, .ireturn, 1, [])]
def z_h38 : List (Nat × Nat × Nat × Nat × Nat × Nat × Nat) := []
def z_m39 : zMi := (RX2, yX2_nextSeed, cX2_nextSeed, 1, some .int, [])
def z_c39 : List zI := [(0, 0, 0, 1103515245), (1, 0, 0, 0), (10, 0, 0, 0), (0, 0, 0, 12345), (8, 0, 0, 0), (50, 0, 0, 0)]
def z_i39 : List zJ := [(0, .ldc 201, 2, [1254]), (2, .iload_n 0, 1, []), (3, .imul, 1, []), (4, .sipush 12345, 3, []), (7, .iadd, 1, []), (8, .ireturn, 1, [])]
def z_h39 : List (Nat × Nat × Nat × Nat × Nat × Nat × Nat) := []
def z_m40 : zMi := (RX2, yX2_bringsQuarrel, cX2_bringsQuarrel, 2, some .boolean, [])
def z_c40 : List zI := [(1, 1, 0, 0), (0, 0, 0, 16), (15, 0, 0, 0), (0, 0, 0, 32767), (16, 0, 0, 0), (0, 0, 0, 100), (12, 0, 0, 0), (2, 0, 0, 0), (37, 1, 16, 0), (32, 12, 3, 0), (0, 0, 0, 1), (30, 13, 0, 0), (0, 0, 0, 0), (50, 0, 0, 0)]
def z_i40 : List zJ := [(0, .iload_n 1, 1, []), (1, .bipush 16, 2, []), (3, .iushr, 1, []), (4, .sipush 32767, 3, []), (7, .iand, 1, []), (8, .bipush 100, 2, []), (10, .irem, 1, []), (11, .aload_n 0, 1, []), (12, .getfield 76, 3, [305]), (15, .if_icmp .ge 7, 3, []), (18, .iconst 1, 1, []), (19, .goto 4, 3, []), (22, .iconst 0, 1, []), (23, .ireturn, 1, [])]
def z_h40 : List (Nat × Nat × Nat × Nat × Nat × Nat × Nat) := []
def z_m41 : zMi := (RX3, yX3_init, cX3_init, 6, none, [])
def z_c41 : List zI := [(2, 0, 0, 0), (57, 0, 0, 0), (2, 0, 0, 0), (0, 0, 0, 32), (47, 0, 0, 0), (38, 2, 5, 2), (2, 0, 0, 0), (1, 1, 0, 0), (38, 2, 0, 0), (2, 0, 0, 0), (2, 2, 0, 0), (1, 1, 0, 0), (55, 314, 2, 0), (38, 2, 1, 2), (2, 0, 0, 0), (2, 3, 0, 0), (1, 1, 0, 0), (55, 314, 2, 0), (38, 2, 2, 2), (2, 0, 0, 0), (2, 4, 0, 0), (1, 1, 0, 0), (55, 314, 2, 0), (38, 2, 3, 2), (2, 0, 0, 0), (2, 5, 0, 0), (38, 2, 4, 2), (53, 0, 0, 0)]
def z_i41 : List zJ := [(0, .aload_n 0, 1, []), (1, .invokespecial 1, 3, [967, 136, 137]), (4, .aload_n 0, 1, []), (5, .bipush 32, 2, []), (7, .newarray .int, 2, [158]), (9, .putfield 9, 3, [976]), (12, .aload_n 0, 1, []), (13, .iload_n 1, 1, []), (14, .putfield 13, 3, [969]), (17, .aload_n 0, 1, []), (18, .aload_n 2, 1, []), (19, .iload_n 1, 1, []), (20, .invokestatic 17, 3, [968, 953, 108, 954]), (23, .putfield 23, 3, [972]), (26, .aload_n 0, 1, []), (27, .aload_n 3, 1, []), (28, .iload_n 1, 1, []), (29, .invokestatic 17, 3, [968, 953, 108, 954]), (32, .putfield 26, 3, [973]), (35, .aload_n 0, 1, []), (36, .aload 4, 2, []), (38, .iload_n 1, 1, []), (39, .invokestatic 17, 3, [968, 953, 108, 954]), (42, .putfield 29, 3, [974]), (45, .aload_n 0, 1, []), (46, .aload 5, 2, []), (48, .putfield 32, 3, [975]), (51, .return_, 1, [])]
def z_h41 : List (Nat × Nat × Nat × Nat × Nat × Nat × Nat) := []
def z_m42 : zMi := (RX3, yX3_sumOf, cX3_sumOf, 7, some .int, [])
def z_c42 : List zI := [(0, 0, 0, 0), (4, 3, 0, 0), (0, 0, 0, 0), (4, 4, 0, 0), (0, 0, 0, 0), (4, 5, 0, 0), (1, 5, 0, 0), (2, 0, 0, 0), (37, 2, 0, 0), (32, 38, 3, 0), (2, 0, 0, 0), (37, 2, 3, 0), (1, 5, 0, 0), (39, 0, 0, 0), (4, 6, 0, 0), (2, 0, 0, 0), (37, 2, 1, 0), (1, 5, 0, 0), (39, 0, 0, 0), (1, 1, 0, 0), (32, 34, 1, 0), (2, 0, 0, 0), (1, 4, 0, 0), (1, 6, 0, 0), (2, 2, 0, 0), (54, 43, 3, 2), (31, 34, 0, 0), (1, 3, 0, 0), (2, 0, 0, 0), (37, 2, 2, 0), (1, 5, 0, 0), (39, 0, 0, 0), (8, 0, 0, 0), (4, 3, 0, 0), (1, 6, 0, 0), (4, 4, 0, 0), (7, 5, 0, 1), (30, 6, 0, 0), (1, 3, 0, 0), (50, 0, 0, 0)]
def z_i42 : List zJ := [(0, .iconst 0, 1, []), (1, .istore_n 3, 1, []), (2, .iconst 0, 1, []), (3, .istore 4, 2, []), (5, .iconst 0, 1, []), (6, .istore 5, 2, []), (8, .iload 5, 2, []), (10, .aload_n 0, 1, []), (11, .getfield 13, 3, [969]), (14, .if_icmp .ge 55, 3, []), (17, .aload_n 0, 1, []), (18, .getfield 29, 3, [974]), (21, .iload 5, 2, []), (23, .iaload, 1, []), (24, .istore 6, 2, []), (26, .aload_n 0, 1, []), (27, .getfield 23, 3, [972]), (30, .iload 5, 2, []), (32, .iaload, 1, []), (33, .iload_n 1, 1, []), (34, .if_icmp .ne 25, 3, []), (37, .aload_n 0, 1, []), (38, .iload 4, 2, []), (40, .iload 6, 2, []), (42, .aload_n 2, 1, []), (43, .invokevirtual 35, 3, [1094, 1096, 12, 123, 1097]), (46, .ifCond .eq 13, 3, []), (49, .iload_n 3, 1, []), (50, .aload_n 0, 1, []), (51, .getfield 26, 3, [973]), (54, .iload 5, 2, []), (56, .iaload, 1, []), (57, .iadd, 1, []), (58, .istore_n 3, 1, []), (59, .iload 6, 2, []), (61, .istore 4, 2, []), (63, .iinc 5 1, 3, []), (66, .goto (-58), 3, []), (69, .iload_n 3, 1, []), (70, .ireturn, 1, [])]
def z_h42 : List (Nat × Nat × Nat × Nat × Nat × Nat × Nat) := []
def z_m43 : zMi := (RX3, yX3_isTrue, cX3_isTrue, 7, some .boolean, [])
def z_c43 : List zI := [(0, 0, 0, 0), (4, 4, 0, 0), (1, 1, 0, 0), (4, 5, 0, 0), (1, 5, 0, 0), (1, 2, 0, 0), (32, 77, 3, 0), (1, 5, 0, 0), (2, 0, 0, 0), (37, 2, 4, 0), (46, 0, 0, 0), (32, 77, 3, 0), (2, 0, 0, 0), (37, 2, 4, 0), (1, 5, 0, 0), (39, 0, 0, 0), (4, 6, 0, 0), (1, 6, 0, 0), (0, 0, 0, -10), (32, 43, 4, 0), (1, 4, 0, 0), (0, 0, 0, 2), (32, 43, 2, 0), (7, 4, 0, -1), (2, 0, 0, 0), (37, 2, 5, 0), (1, 4, 0, 0), (0, 0, 0, 1), (9, 0, 0, 0), (1, 6, 0, 0), (2, 0, 0, 0), (37, 2, 5, 0), (1, 4, 0, 0), (0, 0, 0, 1), (9, 0, 0, 0), (39, 0, 0, 0), (2, 0, 0, 0), (37, 2, 5, 0), (1, 4, 0, 0), (39, 0, 0, 0), (55, 44, 3, 0), (40, 0, 0, 0), (30, 75, 0, 0), (1, 6, 0, 0), (0, 0, 0, -9), (32, 64, 1, 0), (1, 4, 0, 0), (0, 0, 0, 1), (32, 64, 2, 0), (2, 0, 0, 0), (37, 2, 5, 0), (1, 4, 0, 0), (0, 0, 0, 1), (9, 0, 0, 0), (0, 0, 0, 1), (2, 0, 0, 0), (37, 2, 5, 0), (1, 4, 0, 0), (0, 0, 0, 1), (9, 0, 0, 0), (39, 0, 0, 0), (9, 0, 0, 0), (40, 0, 0, 0), (30, 75, 0, 0), (1, 4, 0, 0), (0, 0, 0, 32), (32, 75, 3, 0), (2, 0, 0, 0), (37, 2, 5, 0), (1, 4, 0, 0), (1, 6, 0, 0), (2, 3, 0, 0), (55, 45, 2, 0), (40, 0, 0, 0), (7, 4, 0, 1), (7, 5, 0, 1), (30, 4, 0, 0), (1, 1, 0, 0), (1, 2, 0, 0), (32, 86, 0, 0), (2, 0, 0, 0), (37, 2, 5, 0), (0, 0, 0, 0), (39, 0, 0, 0), (0, 0, 0, 1), (32, 88, 1, 0), (0, 0, 0, 1), (30, 89, 0, 0), (0, 0, 0, 0), (50, 0, 0, 0)]
def z_i43 : List zJ := [(0, .iconst 0, 1, []), (1, .istore 4, 2, []), (3, .iload_n 1, 1, []), (4, .istore 5, 2, []), (6, .iload 5, 2, []), (8, .iload_n 2, 1, []), (9, .if_icmp .ge 136, 3, []), (12, .iload 5, 2, []), (14, .aload_n 0, 1, []), (15, .getfield 32, 3, [975]), (18, .arraylength, 1, []), (19, .if_icmp .ge 126, 3, []), (22, .aload_n 0, 1, []), (23, .getfield 32, 3, [975]), (26, .iload 5, 2, []), (28, .iaload, 1, []), (29, .istore 6, 2, []), (31, .iload 6, 2, []), (33, .bipush (-10), 2, []), (35, .if_icmp .gt 45, 3, []), (38, .iload 4, 2, []), (40, .iconst 2, 1, []), (41, .if_icmp .lt 39, 3, []), (44, .iinc 4 (-1), 3, []), (47, .aload_n 0, 1, []), (48, .getfield 9, 3, [976]), (51, .iload 4, 2, []), (53, .iconst 1, 1, []), (54, .isub, 1, []), (55, .iload 6, 2, []), (57, .aload_n 0, 1, []), (58, .getfield 9, 3, [976]), (61, .iload 4, 2, []), (63, .iconst 1, 1, []), (64, .isub, 1, []), (65, .iaload, 1, []), (66, .aload_n 0, 1, []), (67, .getfield 9, 3, [976]), (70, .iload 4, 2, []), (72, .iaload, 1, []), (73, .invokestatic 39, 3, [1098, 1099, 123, 1100]), (76, .iastore, 1, []), (77, .goto 62, 3, []), (80, .iload 6, 2, []), (82, .bipush (-9), 2, []), (84, .if_icmp .ne 32, 3, []), (87, .iload 4, 2, []), (89, .iconst 1, 1, []), (90, .if_icmp .lt 26, 3, []), (93, .aload_n 0, 1, []), (94, .getfield 9, 3, [976]), (97, .iload 4, 2, []), (99, .iconst 1, 1, []), (100, .isub, 1, []), (101, .iconst 1, 1, []), (102, .aload_n 0, 1, []), (103, .getfield 9, 3, [976]), (106, .iload 4, 2, []), (108, .iconst 1, 1, []), (109, .isub, 1, []), (110, .iaload, 1, []), (111, .isub, 1, []), (112, .iastore, 1, []), (113, .goto 26, 3, []), (116, .iload 4, 2, []), (118, .bipush 32, 2, []), (120, .if_icmp .ge 19, 3, []), (123, .aload_n 0, 1, []), (124, .getfield 9, 3, [976]), (127, .iload 4, 2, []), (129, .iload 6, 2, []), (131, .aload_n 3, 1, []), (132, .invokestatic 43, 3, [1101, 1102, 123, 1103]), (135, .iastore, 1, []), (136, .iinc 4 1, 3, []), (139, .iinc 5 1, 3, []), (142, .goto (-136), 3, []), (145, .iload_n 1, 1, []), (146, .iload_n 2, 1, []), (147, .if_icmp .eq 13, 3, []), (150, .aload_n 0, 1, []), (151, .getfield 9, 3, [976]), (154, .iconst 0, 1, []), (155, .iaload, 1, []), (156, .iconst 1, 1, []), (157, .if_icmp .ne 7, 3, []), (160, .iconst 1, 1, []), (161, .goto 4, 3, []), (164, .iconst 0, 1, []), (165, .ireturn, 1, [])]
def z_h43 : List (Nat × Nat × Nat × Nat × Nat × Nat × Nat) := []
def z_m44 : zMi := (RX3, yX3_joined, cX3_joined, 3, some .int, [])
def z_c44 : List zI := [(1, 0, 0, 0), (35, 1, 0, 0), (1, 1, 0, 0), (1, 2, 0, 0), (8, 0, 0, 0), (50, 0, 0, 0), (1, 1, 0, 0), (1, 2, 0, 0), (32, 11, 3, 0), (0, 0, 0, 1), (30, 12, 0, 0), (0, 0, 0, 0), (50, 0, 0, 0), (1, 1, 0, 0), (1, 2, 0, 0), (32, 18, 5, 0), (0, 0, 0, 1), (30, 19, 0, 0), (0, 0, 0, 0), (50, 0, 0, 0), (1, 1, 0, 0), (1, 2, 0, 0), (16, 0, 0, 0), (50, 0, 0, 0), (1, 1, 0, 0), (1, 2, 0, 0), (17, 0, 0, 0), (50, 0, 0, 0)]
def z_i44 : List zJ := [(0, .iload_n 0, 1, []), (1, .tableswitch 61 (-13) (-10) #[57, 46, 35, 31], 31, []), (32, .iload_n 1, 1, []), (33, .iload_n 2, 1, []), (34, .iadd, 1, []), (35, .ireturn, 1, []), (36, .iload_n 1, 1, []), (37, .iload_n 2, 1, []), (38, .if_icmp .ge 7, 3, []), (41, .iconst 1, 1, []), (42, .goto 4, 3, []), (45, .iconst 0, 1, []), (46, .ireturn, 1, []), (47, .iload_n 1, 1, []), (48, .iload_n 2, 1, []), (49, .if_icmp .le 7, 3, []), (52, .iconst 1, 1, []), (53, .goto 4, 3, []), (56, .iconst 0, 1, []), (57, .ireturn, 1, []), (58, .iload_n 1, 1, []), (59, .iload_n 2, 1, []), (60, .iand, 1, []), (61, .ireturn, 1, []), (62, .iload_n 1, 1, []), (63, .iload_n 2, 1, []), (64, .ior, 1, []), (65, .ireturn, 1, [])]
def z_h44 : List (Nat × Nat × Nat × Nat × Nat × Nat × Nat) := []
def z_m45 : zMi := (RX3, yX3_valueOf, cX3_valueOf, 3, some .int, [])
def z_c45 : List zI := [(0, 0, 0, -1), (1, 0, 0, 0), (9, 0, 0, 0), (4, 2, 0, 0), (1, 2, 0, 0), (31, 14, 2, 0), (1, 2, 0, 0), (2, 1, 0, 0), (46, 0, 0, 0), (32, 14, 3, 0), (2, 1, 0, 0), (1, 2, 0, 0), (39, 0, 0, 0), (30, 15, 0, 0), (1, 0, 0, 0), (50, 0, 0, 0)]
def z_i45 : List zJ := [(0, .iconst (-1), 1, []), (1, .iload_n 0, 1, []), (2, .isub, 1, []), (3, .istore_n 2, 1, []), (4, .iload_n 2, 1, []), (5, .ifCond .lt 15, 3, []), (8, .iload_n 2, 1, []), (9, .aload_n 1, 1, []), (10, .arraylength, 1, []), (11, .if_icmp .ge 9, 3, []), (14, .aload_n 1, 1, []), (15, .iload_n 2, 1, []), (16, .iaload, 1, []), (17, .goto 4, 3, []), (20, .iload_n 0, 1, []), (21, .ireturn, 1, [])]
def z_h45 : List (Nat × Nat × Nat × Nat × Nat × Nat × Nat) := []
def z_m46 : zMi := (RX4, yX4_init, cX4_init, 1, none, [])
def z_c46 : List zI := [(2, 0, 0, 0), (57, 0, 0, 0), (2, 0, 0, 0), (0, 0, 0, 12), (47, 0, 0, 0), (38, 3, 0, 2), (2, 0, 0, 0), (0, 0, 0, 12), (47, 0, 0, 0), (38, 3, 1, 2), (2, 0, 0, 0), (0, 0, 0, 12), (47, 0, 0, 0), (38, 3, 2, 2), (2, 0, 0, 0), (0, 0, 0, 400), (47, 0, 0, 0), (38, 3, 3, 2), (2, 0, 0, 0), (0, 0, 0, 0), (38, 3, 4, 0), (2, 0, 0, 0), (0, 0, 0, 0), (38, 3, 5, 0), (53, 0, 0, 0)]
def z_i46 : List zJ := [(0, .aload_n 0, 1, []), (1, .invokespecial 1, 3, [164, 136, 137]), (4, .aload_n 0, 1, []), (5, .bipush 12, 2, []), (7, .newarray .int, 2, [158]), (9, .putfield 9, 3, [165]), (12, .aload_n 0, 1, []), (13, .bipush 12, 2, []), (15, .newarray .int, 2, [158]), (17, .putfield 13, 3, [166]), (20, .aload_n 0, 1, []), (21, .bipush 12, 2, []), (23, .newarray .int, 2, [158]), (25, .putfield 16, 3, [167]), (28, .aload_n 0, 1, []), (29, .sipush 400, 3, []), (32, .newarray .int, 2, [158]), (34, .putfield 21, 3, [168]), (37, .aload_n 0, 1, []), (38, .iconst 0, 1, []), (39, .putfield 24, 3, [169]), (42, .aload_n 0, 1, []), (43, .iconst 0, 1, []), (44, .putfield 28, 3, [170]), (47, .return_, 1, [])]
def z_h46 : List (Nat × Nat × Nat × Nat × Nat × Nat × Nat) := []
def z_m47 : zMi := (RX4, yX4_readText, cX4_readText, 4, some .int, [])
def z_c47 : List zI := [(2, 1, 0, 0), (54, 87, 0, 6), (2, 0, 0, 0), (0, 0, 0, 0), (38, 3, 4, 0), (2, 0, 0, 0), (0, 0, 0, 0), (38, 3, 5, 0), (2, 1, 0, 0), (54, 89, 0, 6), (4, 2, 0, 0), (0, 0, 0, 0), (4, 3, 0, 0), (1, 2, 0, 0), (31, 62, 0, 0), (1, 3, 0, 0), (0, 0, 0, 12), (32, 62, 3, 0), (2, 0, 0, 0), (37, 3, 0, 0), (1, 3, 0, 0), (2, 0, 0, 0), (2, 1, 0, 0), (54, 49, 1, 3), (40, 0, 0, 0), (2, 0, 0, 0), (37, 3, 1, 0), (1, 3, 0, 0), (2, 1, 0, 0), (0, 0, 0, 0), (0, 0, 0, 20), (54, 96, 2, 6), (40, 0, 0, 0), (2, 1, 0, 0), (58, 27, 0, 0), (54, 91, 1, 6), (31, 41, 0, 0), (2, 0, 0, 0), (2, 1, 0, 0), (0, 0, 0, 0), (54, 50, 2, 3), (2, 0, 0, 0), (37, 3, 2, 0), (1, 3, 0, 0), (2, 0, 0, 0), (37, 3, 5, 0), (40, 0, 0, 0), (2, 0, 0, 0), (1, 3, 0, 0), (0, 0, 0, 1), (8, 0, 0, 0), (38, 3, 4, 0), (2, 1, 0, 0), (54, 89, 0, 6), (4, 2, 0, 0), (1, 2, 0, 0), (31, 60, 0, 0), (2, 1, 0, 0), (0, 0, 0, 59), (54, 94, 1, 6), (7, 3, 0, 1), (30, 13, 0, 0), (1, 2, 0, 0), (31, 66, 0, 0), (2, 1, 0, 0), (54, 90, 0, 6), (2, 1, 0, 0), (54, 88, 0, 6), (50, 0, 0, 0)]
def z_i47 : List zJ := [(0, .aload_n 1, 1, []), (1, .invokevirtual 31, 3, [893, 632, 633, 102, 634]), (4, .aload_n 0, 1, []), (5, .iconst 0, 1, []), (6, .putfield 24, 3, [169]), (9, .aload_n 0, 1, []), (10, .iconst 0, 1, []), (11, .putfield 28, 3, [170]), (14, .aload_n 1, 1, []), (15, .invokevirtual 34, 3, [894, 640, 641, 102, 642]), (18, .istore_n 2, 1, []), (19, .iconst 0, 1, []), (20, .istore_n 3, 1, []), (21, .iload_n 2, 1, []), (22, .ifCond .eq 86, 3, []), (25, .iload_n 3, 1, []), (26, .bipush 12, 2, []), (28, .if_icmp .ge 80, 3, []), (31, .aload_n 0, 1, []), (32, .getfield 9, 3, [165]), (35, .iload_n 3, 1, []), (36, .aload_n 0, 1, []), (37, .aload_n 1, 1, []), (38, .invokevirtual 38, 3, [895, 897, 2, 103, 898]), (41, .iastore, 1, []), (42, .aload_n 0, 1, []), (43, .getfield 13, 3, [166]), (46, .iload_n 3, 1, []), (47, .aload_n 1, 1, []), (48, .iconst 0, 1, []), (49, .bipush 20, 2, []), (51, .invokevirtual 42, 3, [904, 724, 725, 102, 726]), (54, .iastore, 1, []), (55, .aload_n 1, 1, []), (56, .ldc 46, 2, []), (58, .invokevirtual 48, 3, [900, 652, 653, 102, 654]), (61, .ifCond .eq 9, 3, []), (64, .aload_n 0, 1, []), (65, .aload_n 1, 1, []), (66, .iconst 0, 1, []), (67, .invokevirtual 52, 3, [906, 908, 3, 103, 909]), (70, .aload_n 0, 1, []), (71, .getfield 16, 3, [167]), (74, .iload_n 3, 1, []), (75, .aload_n 0, 1, []), (76, .getfield 28, 3, [170]), (79, .iastore, 1, []), (80, .aload_n 0, 1, []), (81, .iload_n 3, 1, []), (82, .iconst 1, 1, []), (83, .iadd, 1, []), (84, .putfield 24, 3, [169]), (87, .aload_n 1, 1, []), (88, .invokevirtual 34, 3, [894, 640, 641, 102, 642]), (91, .istore_n 2, 1, []), (92, .iload_n 2, 1, []), (93, .ifCond .eq 9, 3, []), (96, .aload_n 1, 1, []), (97, .bipush 59, 2, []), (99, .invokevirtual 56, 3, [920, 785, 786, 102, 787]), (102, .iinc 3 1, 3, []), (105, .goto (-84), 3, []), (108, .iload_n 2, 1, []), (109, .ifCond .eq 7, 3, []), (112, .aload_n 1, 1, []), (113, .invokevirtual 60, 3, [941, 720, 721, 102, 722]), (116, .aload_n 1, 1, []), (117, .invokevirtual 63, 3, [944, 793, 794, 102, 795]), (120, .ireturn, 1, [])]
def z_h47 : List (Nat × Nat × Nat × Nat × Nat × Nat × Nat) := []
def z_m48 : zMi := (RX4, yX4_lawRead, cX4_lawRead, 1, some (.object "ClockShares$Law"), [])
def z_c48 : List zI := [(49, 2, 0, 0), (27, 0, 0, 0), (2, 0, 0, 0), (37, 3, 4, 0), (2, 0, 0, 0), (37, 3, 0, 0), (2, 0, 0, 0), (37, 3, 1, 0), (2, 0, 0, 0), (37, 3, 2, 0), (2, 0, 0, 0), (37, 3, 3, 0), (2, 0, 0, 0), (37, 3, 5, 0), (55, 314, 2, 0), (56, 41, 5, 0), (52, 0, 0, 0)]
def z_i48 : List zJ := [(0, .new 67, 3, [950, 951, 123]), (3, .dup, 1, []), (4, .aload_n 0, 1, []), (5, .getfield 24, 3, [169]), (8, .aload_n 0, 1, []), (9, .getfield 9, 3, [165]), (12, .aload_n 0, 1, []), (13, .getfield 13, 3, [166]), (16, .aload_n 0, 1, []), (17, .getfield 16, 3, [167]), (20, .aload_n 0, 1, []), (21, .getfield 21, 3, [168]), (24, .aload_n 0, 1, []), (25, .getfield 28, 3, [170]), (28, .invokestatic 69, 3, [952, 953, 108, 954]), (31, .invokespecial 75, 3, [964, 965, 123, 966]), (34, .areturn, 1, [])]
def z_h48 : List (Nat × Nat × Nat × Nat × Nat × Nat × Nat) := []
def z_m49 : zMi := (RX4, yX4_readKind, cX4_readKind, 2, some .int, [])
def z_c49 : List zI := [(2, 1, 0, 0), (58, 28, 0, 0), (54, 91, 1, 6), (31, 6, 0, 0), (0, 0, 0, 0), (50, 0, 0, 0), (2, 1, 0, 0), (58, 29, 0, 0), (54, 91, 1, 6), (31, 12, 0, 0), (0, 0, 0, 1), (50, 0, 0, 0), (2, 1, 0, 0), (58, 30, 0, 0), (54, 92, 1, 6), (0, 0, 0, 2), (50, 0, 0, 0)]
def z_i49 : List zJ := [(0, .aload_n 1, 1, []), (1, .ldc 78, 2, []), (3, .invokevirtual 48, 3, [900, 652, 653, 102, 654]), (6, .ifCond .eq 5, 3, []), (9, .iconst 0, 1, []), (10, .ireturn, 1, []), (11, .aload_n 1, 1, []), (12, .ldc 80, 2, []), (14, .invokevirtual 48, 3, [900, 652, 653, 102, 654]), (17, .ifCond .eq 5, 3, []), (20, .iconst 1, 1, []), (21, .ireturn, 1, []), (22, .aload_n 1, 1, []), (23, .ldc 82, 2, []), (25, .invokevirtual 84, 3, [903, 715, 716, 102, 717]), (28, .iconst 2, 1, []), (29, .ireturn, 1, [])]
def z_h49 : List (Nat × Nat × Nat × Nat × Nat × Nat × Nat) := []
def z_m50 : zMi := (RX4, yX4_readCondition, cX4_readCondition, 5, none, [])
def z_c50 : List zI := [(0, 0, 0, 0), (4, 3, 0, 0), (2, 0, 0, 0), (2, 1, 0, 0), (1, 2, 0, 0), (54, 51, 2, 3), (0, 0, 0, 0), (4, 4, 0, 0), (1, 4, 0, 0), (0, 0, 0, 400), (32, 40, 3, 0), (2, 1, 0, 0), (58, 31, 0, 0), (54, 91, 1, 6), (31, 23, 0, 0), (2, 0, 0, 0), (2, 1, 0, 0), (1, 2, 0, 0), (54, 51, 2, 3), (2, 0, 0, 0), (0, 0, 0, -13), (54, 54, 1, 3), (30, 38, 0, 0), (2, 1, 0, 0), (58, 32, 0, 0), (54, 91, 1, 6), (31, 40, 0, 0), (1, 3, 0, 0), (31, 32, 0, 0), (2, 0, 0, 0), (0, 0, 0, -14), (54, 54, 1, 3), (0, 0, 0, 1), (4, 3, 0, 0), (2, 0, 0, 0), (2, 1, 0, 0), (1, 2, 0, 0), (54, 51, 2, 3), (7, 4, 0, 1), (30, 8, 0, 0), (1, 3, 0, 0), (31, 45, 0, 0), (2, 0, 0, 0), (0, 0, 0, -14), (54, 54, 1, 3), (53, 0, 0, 0)]
def z_i50 : List zJ := [(0, .iconst 0, 1, []), (1, .istore_n 3, 1, []), (2, .aload_n 0, 1, []), (3, .aload_n 1, 1, []), (4, .iload_n 2, 1, []), (5, .invokevirtual 88, 3, [910, 912, 4, 103, 913]), (8, .iconst 0, 1, []), (9, .istore 4, 2, []), (11, .iload 4, 2, []), (13, .sipush 400, 3, []), (16, .if_icmp .ge 60, 3, []), (19, .aload_n 1, 1, []), (20, .ldc 91, 2, []), (22, .invokevirtual 48, 3, [900, 652, 653, 102, 654]), (25, .ifCond .eq 18, 3, []), (28, .aload_n 0, 1, []), (29, .aload_n 1, 1, []), (30, .iload_n 2, 1, []), (31, .invokevirtual 88, 3, [910, 912, 4, 103, 913]), (34, .aload_n 0, 1, []), (35, .bipush (-13), 2, []), (37, .invokevirtual 93, 3, [915, 917, 5, 103, 918]), (40, .goto 30, 3, []), (43, .aload_n 1, 1, []), (44, .ldc 97, 2, []), (46, .invokevirtual 48, 3, [900, 652, 653, 102, 654]), (49, .ifCond .eq 27, 3, []), (52, .iload_n 3, 1, []), (53, .ifCond .eq 9, 3, []), (56, .aload_n 0, 1, []), (57, .bipush (-14), 2, []), (59, .invokevirtual 93, 3, [915, 917, 5, 103, 918]), (62, .iconst 1, 1, []), (63, .istore_n 3, 1, []), (64, .aload_n 0, 1, []), (65, .aload_n 1, 1, []), (66, .iload_n 2, 1, []), (67, .invokevirtual 88, 3, [910, 912, 4, 103, 913]), (70, .iinc 4 1, 3, []), (73, .goto (-62), 3, []), (76, .iload_n 3, 1, []), (77, .ifCond .eq 9, 3, []), (80, .aload_n 0, 1, []), (81, .bipush (-14), 2, []), (83, .invokevirtual 93, 3, [915, 917, 5, 103, 918]), (86, .return_, 1, [])]
def z_h50 : List (Nat × Nat × Nat × Nat × Nat × Nat × Nat) := []
def z_m51 : zMi := (RX4, yX4_readAtom, cX4_readAtom, 4, none, [])
def z_c51 : List zI := [(1, 2, 0, 0), (0, 0, 0, 6), (32, 17, 3, 0), (2, 1, 0, 0), (58, 33, 0, 0), (54, 91, 1, 6), (31, 17, 0, 0), (2, 0, 0, 0), (2, 1, 0, 0), (1, 2, 0, 0), (0, 0, 0, 1), (8, 0, 0, 0), (54, 51, 2, 3), (2, 0, 0, 0), (0, 0, 0, -9), (54, 54, 1, 3), (30, 72, 0, 0), (1, 2, 0, 0), (0, 0, 0, 6), (32, 34, 3, 0), (2, 1, 0, 0), (0, 0, 0, 40), (54, 93, 1, 6), (31, 34, 0, 0), (2, 0, 0, 0), (2, 1, 0, 0), (1, 2, 0, 0), (0, 0, 0, 1), (8, 0, 0, 0), (54, 50, 2, 3), (2, 1, 0, 0), (0, 0, 0, 41), (54, 94, 1, 6), (30, 72, 0, 0), (2, 1, 0, 0), (58, 34, 0, 0), (54, 91, 1, 6), (31, 42, 0, 0), (2, 0, 0, 0), (0, 0, 0, -7), (54, 54, 1, 3), (30, 72, 0, 0), (2, 1, 0, 0), (58, 35, 0, 0), (54, 91, 1, 6), (31, 50, 0, 0), (2, 0, 0, 0), (0, 0, 0, -8), (54, 54, 1, 3), (30, 72, 0, 0), (2, 0, 0, 0), (2, 1, 0, 0), (54, 52, 1, 3), (2, 1, 0, 0), (0, 0, 0, 60), (54, 93, 1, 6), (4, 3, 0, 0), (1, 3, 0, 0), (31, 62, 1, 0), (2, 1, 0, 0), (0, 0, 0, 62), (54, 94, 1, 6), (2, 0, 0, 0), (2, 1, 0, 0), (54, 52, 1, 3), (2, 0, 0, 0), (1, 3, 0, 0), (31, 70, 0, 0), (0, 0, 0, -11), (30, 71, 0, 0), (0, 0, 0, -12), (54, 54, 1, 3), (53, 0, 0, 0)]
def z_i51 : List zJ := [(0, .iload_n 2, 1, []), (1, .bipush 6, 2, []), (3, .if_icmp .ge 29, 3, []), (6, .aload_n 1, 1, []), (7, .ldc 99, 2, []), (9, .invokevirtual 48, 3, [900, 652, 653, 102, 654]), (12, .ifCond .eq 20, 3, []), (15, .aload_n 0, 1, []), (16, .aload_n 1, 1, []), (17, .iload_n 2, 1, []), (18, .iconst 1, 1, []), (19, .iadd, 1, []), (20, .invokevirtual 88, 3, [910, 912, 4, 103, 913]), (23, .aload_n 0, 1, []), (24, .bipush (-9), 2, []), (26, .invokevirtual 93, 3, [915, 917, 5, 103, 918]), (29, .goto 113, 3, []), (32, .iload_n 2, 1, []), (33, .bipush 6, 2, []), (35, .if_icmp .ge 29, 3, []), (38, .aload_n 1, 1, []), (39, .bipush 40, 2, []), (41, .invokevirtual 101, 3, [919, 789, 790, 102, 791]), (44, .ifCond .eq 20, 3, []), (47, .aload_n 0, 1, []), (48, .aload_n 1, 1, []), (49, .iload_n 2, 1, []), (50, .iconst 1, 1, []), (51, .iadd, 1, []), (52, .invokevirtual 52, 3, [906, 908, 3, 103, 909]), (55, .aload_n 1, 1, []), (56, .bipush 41, 2, []), (58, .invokevirtual 56, 3, [920, 785, 786, 102, 787]), (61, .goto 81, 3, []), (64, .aload_n 1, 1, []), (65, .ldc 105, 2, []), (67, .invokevirtual 48, 3, [900, 652, 653, 102, 654]), (70, .ifCond .eq 12, 3, []), (73, .aload_n 0, 1, []), (74, .bipush (-7), 2, []), (76, .invokevirtual 93, 3, [915, 917, 5, 103, 918]), (79, .goto 63, 3, []), (82, .aload_n 1, 1, []), (83, .ldc 107, 2, []), (85, .invokevirtual 48, 3, [900, 652, 653, 102, 654]), (88, .ifCond .eq 12, 3, []), (91, .aload_n 0, 1, []), (92, .bipush (-8), 2, []), (94, .invokevirtual 93, 3, [915, 917, 5, 103, 918]), (97, .goto 45, 3, []), (100, .aload_n 0, 1, []), (101, .aload_n 1, 1, []), (102, .invokevirtual 109, 3, [923, 925, 6, 103, 926]), (105, .aload_n 1, 1, []), (106, .bipush 60, 2, []), (108, .invokevirtual 101, 3, [919, 789, 790, 102, 791]), (111, .istore_n 3, 1, []), (112, .iload_n 3, 1, []), (113, .ifCond .ne 9, 3, []), (116, .aload_n 1, 1, []), (117, .bipush 62, 2, []), (119, .invokevirtual 56, 3, [920, 785, 786, 102, 787]), (122, .aload_n 0, 1, []), (123, .aload_n 1, 1, []), (124, .invokevirtual 109, 3, [923, 925, 6, 103, 926]), (127, .aload_n 0, 1, []), (128, .iload_n 3, 1, []), (129, .ifCond .eq 8, 3, []), (132, .bipush (-11), 2, []), (134, .goto 5, 3, []), (137, .bipush (-12), 2, []), (139, .invokevirtual 93, 3, [915, 917, 5, 103, 918]), (142, .return_, 1, [])]
def z_h51 : List (Nat × Nat × Nat × Nat × Nat × Nat × Nat) := []
def z_m52 : zMi := (RX4, yX4_readSum, cX4_readSum, 3, none, [])
def z_c52 : List zI := [(2, 0, 0, 0), (2, 1, 0, 0), (54, 53, 1, 3), (0, 0, 0, 0), (4, 2, 0, 0), (1, 2, 0, 0), (0, 0, 0, 400), (32, 20, 3, 0), (2, 1, 0, 0), (0, 0, 0, 43), (54, 93, 1, 6), (31, 20, 0, 0), (2, 0, 0, 0), (2, 1, 0, 0), (54, 53, 1, 3), (2, 0, 0, 0), (0, 0, 0, -10), (54, 54, 1, 3), (7, 2, 0, 1), (30, 5, 0, 0), (53, 0, 0, 0)]
def z_i52 : List zJ := [(0, .aload_n 0, 1, []), (1, .aload_n 1, 1, []), (2, .invokevirtual 113, 3, [927, 929, 7, 103, 930]), (5, .iconst 0, 1, []), (6, .istore_n 2, 1, []), (7, .iload_n 2, 1, []), (8, .sipush 400, 3, []), (11, .if_icmp .ge 29, 3, []), (14, .aload_n 1, 1, []), (15, .bipush 43, 2, []), (17, .invokevirtual 101, 3, [919, 789, 790, 102, 791]), (20, .ifCond .eq 20, 3, []), (23, .aload_n 0, 1, []), (24, .aload_n 1, 1, []), (25, .invokevirtual 113, 3, [927, 929, 7, 103, 930]), (28, .aload_n 0, 1, []), (29, .bipush (-10), 2, []), (31, .invokevirtual 93, 3, [915, 917, 5, 103, 918]), (34, .iinc 2 1, 3, []), (37, .goto (-30), 3, []), (40, .return_, 1, [])]
def z_h52 : List (Nat × Nat × Nat × Nat × Nat × Nat × Nat) := []
def z_m53 : zMi := (RX4, yX4_readPart, cX4_readPart, 2, none, [])
def z_c53 : List zI := [(2, 1, 0, 0), (54, 95, 0, 6), (31, 10, 0, 0), (2, 0, 0, 0), (2, 1, 0, 0), (0, 0, 0, 0), (0, 0, 0, 999), (54, 96, 2, 6), (54, 54, 1, 3), (30, 60, 0, 0), (2, 1, 0, 0), (58, 36, 0, 0), (54, 91, 1, 6), (31, 18, 0, 0), (2, 0, 0, 0), (0, 0, 0, -1), (54, 54, 1, 3), (30, 60, 0, 0), (2, 1, 0, 0), (58, 37, 0, 0), (54, 91, 1, 6), (31, 26, 0, 0), (2, 0, 0, 0), (0, 0, 0, -2), (54, 54, 1, 3), (30, 60, 0, 0), (2, 1, 0, 0), (58, 38, 0, 0), (54, 91, 1, 6), (31, 34, 0, 0), (2, 0, 0, 0), (0, 0, 0, -3), (54, 54, 1, 3), (30, 60, 0, 0), (2, 1, 0, 0), (58, 39, 0, 0), (54, 91, 1, 6), (31, 42, 0, 0), (2, 0, 0, 0), (0, 0, 0, -4), (54, 54, 1, 3), (30, 60, 0, 0), (2, 1, 0, 0), (58, 40, 0, 0), (54, 91, 1, 6), (31, 50, 0, 0), (2, 0, 0, 0), (0, 0, 0, -5), (54, 54, 1, 3), (30, 60, 0, 0), (2, 1, 0, 0), (58, 41, 0, 0), (54, 91, 1, 6), (31, 58, 0, 0), (2, 0, 0, 0), (0, 0, 0, -6), (54, 54, 1, 3), (30, 60, 0, 0), (2, 1, 0, 0), (54, 90, 0, 6), (53, 0, 0, 0)]
def z_i53 : List zJ := [(0, .aload_n 1, 1, []), (1, .invokevirtual 116, 3, [931, 932, 933, 102, 934]), (4, .ifCond .eq 18, 3, []), (7, .aload_n 0, 1, []), (8, .aload_n 1, 1, []), (9, .iconst 0, 1, []), (10, .sipush 999, 3, []), (13, .invokevirtual 42, 3, [904, 724, 725, 102, 726]), (16, .invokevirtual 93, 3, [915, 917, 5, 103, 918]), (19, .goto 114, 3, []), (22, .aload_n 1, 1, []), (23, .ldc 119, 2, []), (25, .invokevirtual 48, 3, [900, 652, 653, 102, 654]), (28, .ifCond .eq 11, 3, []), (31, .aload_n 0, 1, []), (32, .iconst (-1), 1, []), (33, .invokevirtual 93, 3, [915, 917, 5, 103, 918]), (36, .goto 97, 3, []), (39, .aload_n 1, 1, []), (40, .ldc 121, 2, []), (42, .invokevirtual 48, 3, [900, 652, 653, 102, 654]), (45, .ifCond .eq 12, 3, []), (48, .aload_n 0, 1, []), (49, .bipush (-2), 2, []), (51, .invokevirtual 93, 3, [915, 917, 5, 103, 918]), (54, .goto 79, 3, []), (57, .aload_n 1, 1, []), (58, .ldc 123, 2, []), (60, .invokevirtual 48, 3, [900, 652, 653, 102, 654]), (63, .ifCond .eq 12, 3, []), (66, .aload_n 0, 1, []), (67, .bipush (-3), 2, []), (69, .invokevirtual 93, 3, [915, 917, 5, 103, 918]), (72, .goto 61, 3, []), (75, .aload_n 1, 1, []), (76, .ldc 125, 2, []), (78, .invokevirtual 48, 3, [900, 652, 653, 102, 654]), (81, .ifCond .eq 12, 3, []), (84, .aload_n 0, 1, []), (85, .bipush (-4), 2, []), (87, .invokevirtual 93, 3, [915, 917, 5, 103, 918]), (90, .goto 43, 3, []), (93, .aload_n 1, 1, []), (94, .ldc 127, 2, []), (96, .invokevirtual 48, 3, [900, 652, 653, 102, 654]), (99, .ifCond .eq 12, 3, []), (102, .aload_n 0, 1, []), (103, .bipush (-5), 2, []), (105, .invokevirtual 93, 3, [915, 917, 5, 103, 918]), (108, .goto 25, 3, []), (111, .aload_n 1, 1, []), (112, .ldc 129, 2, []), (114, .invokevirtual 48, 3, [900, 652, 653, 102, 654]), (117, .ifCond .eq 12, 3, []), (120, .aload_n 0, 1, []), (121, .bipush (-6), 2, []), (123, .invokevirtual 93, 3, [915, 917, 5, 103, 918]), (126, .goto 7, 3, []), (129, .aload_n 1, 1, []), (130, .invokevirtual 60, 3, [941, 720, 721, 102, 722]), (133, .return_, 1, [])]
def z_h53 : List (Nat × Nat × Nat × Nat × Nat × Nat × Nat) := []
def z_m54 : zMi := (RX4, yX4_put, cX4_put, 2, none, [])
def z_c54 : List zI := [(2, 0, 0, 0), (37, 3, 5, 0), (2, 0, 0, 0), (37, 3, 3, 0), (46, 0, 0, 0), (32, 18, 3, 0), (2, 0, 0, 0), (37, 3, 3, 0), (2, 0, 0, 0), (37, 3, 5, 0), (1, 1, 0, 0), (40, 0, 0, 0), (2, 0, 0, 0), (27, 0, 0, 0), (37, 3, 5, 0), (0, 0, 0, 1), (8, 0, 0, 0), (38, 3, 5, 0), (53, 0, 0, 0)]
def z_i54 : List zJ := [(0, .aload_n 0, 1, []), (1, .getfield 28, 3, [170]), (4, .aload_n 0, 1, []), (5, .getfield 21, 3, [168]), (8, .arraylength, 1, []), (9, .if_icmp .ge 23, 3, []), (12, .aload_n 0, 1, []), (13, .getfield 21, 3, [168]), (16, .aload_n 0, 1, []), (17, .getfield 28, 3, [170]), (20, .iload_n 1, 1, []), (21, .iastore, 1, []), (22, .aload_n 0, 1, []), (23, .dup, 1, []), (24, .getfield 28, 3, [170]), (27, .iconst 1, 1, []), (28, .iadd, 1, []), (29, .putfield 28, 3, [170]), (32, .return_, 1, [])]
def z_h54 : List (Nat × Nat × Nat × Nat × Nat × Nat × Nat) := []
def z_m55 : zMi := (RX5, yX5_init, cX5_init, 1, none, [])
def z_c55 : List zI := [(2, 0, 0, 0), (57, 0, 0, 0), (2, 0, 0, 0), (0, 0, 0, 300), (47, 0, 0, 0), (38, 4, 0, 2), (2, 0, 0, 0), (0, 0, 0, 0), (38, 4, 1, 0), (2, 0, 0, 0), (0, 0, 0, 0), (38, 4, 2, 0), (53, 0, 0, 0)]
def z_i55 : List zJ := [(0, .aload_n 0, 1, []), (1, .invokespecial 3, 3, [254, 136, 137]), (4, .aload_n 0, 1, []), (5, .sipush 300, 3, []), (8, .newarray .int, 2, [158]), (10, .putfield 11, 3, [255]), (13, .aload_n 0, 1, []), (14, .iconst 0, 1, []), (15, .putfield 15, 3, [256]), (18, .aload_n 0, 1, []), (19, .iconst 0, 1, []), (20, .putfield 19, 3, [257]), (23, .return_, 1, [])]
def z_h55 : List (Nat × Nat × Nat × Nat × Nat × Nat × Nat) := []
def z_m56 : zMi := (RX5, yX5_copyFrom, cX5_copyFrom, 2, none, [])
def z_c56 : List zI := [(2, 1, 0, 0), (37, 4, 0, 0), (0, 0, 0, 0), (2, 0, 0, 0), (37, 4, 0, 0), (0, 0, 0, 0), (0, 0, 0, 300), (61, 0, 0, 0), (2, 0, 0, 0), (2, 1, 0, 0), (37, 4, 1, 0), (38, 4, 1, 0), (2, 0, 0, 0), (2, 1, 0, 0), (37, 4, 2, 0), (38, 4, 2, 0), (53, 0, 0, 0)]
def z_i56 : List zJ := [(0, .aload_n 1, 1, []), (1, .getfield 11, 3, [255]), (4, .iconst 0, 1, []), (5, .aload_n 0, 1, []), (6, .getfield 11, 3, [255]), (9, .iconst 0, 1, []), (10, .sipush 300, 3, []), (13, .invokestatic 22, 3, [436]), (16, .aload_n 0, 1, []), (17, .aload_n 1, 1, []), (18, .getfield 15, 3, [256]), (21, .putfield 15, 3, [256]), (24, .aload_n 0, 1, []), (25, .aload_n 1, 1, []), (26, .getfield 19, 3, [257]), (29, .putfield 19, 3, [257]), (32, .return_, 1, [])]
def z_h56 : List (Nat × Nat × Nat × Nat × Nat × Nat × Nat) := []
def z_m57 : zMi := (RX5, yX5_append, cX5_append, 7, none, [])
def z_c57 : List zI := [(2, 0, 0, 0), (37, 4, 1, 0), (0, 0, 0, 5), (10, 0, 0, 0), (4, 6, 0, 0), (1, 6, 0, 0), (31, 14, 2, 0), (1, 6, 0, 0), (0, 0, 0, 5), (8, 0, 0, 0), (2, 0, 0, 0), (37, 4, 0, 0), (46, 0, 0, 0), (32, 15, 5, 0), (53, 0, 0, 0), (2, 0, 0, 0), (37, 4, 0, 0), (1, 6, 0, 0), (1, 1, 0, 0), (40, 0, 0, 0), (2, 0, 0, 0), (37, 4, 0, 0), (1, 6, 0, 0), (0, 0, 0, 1), (8, 0, 0, 0), (1, 2, 0, 0), (40, 0, 0, 0), (2, 0, 0, 0), (37, 4, 0, 0), (1, 6, 0, 0), (0, 0, 0, 2), (8, 0, 0, 0), (1, 3, 0, 0), (40, 0, 0, 0), (2, 0, 0, 0), (37, 4, 0, 0), (1, 6, 0, 0), (0, 0, 0, 3), (8, 0, 0, 0), (1, 4, 0, 0), (40, 0, 0, 0), (2, 0, 0, 0), (37, 4, 0, 0), (1, 6, 0, 0), (0, 0, 0, 4), (8, 0, 0, 0), (1, 5, 0, 0), (40, 0, 0, 0), (2, 0, 0, 0), (2, 0, 0, 0), (37, 4, 1, 0), (0, 0, 0, 1), (8, 0, 0, 0), (0, 0, 0, 60), (12, 0, 0, 0), (38, 4, 1, 0), (2, 0, 0, 0), (2, 0, 0, 0), (37, 4, 2, 0), (0, 0, 0, 1), (8, 0, 0, 0), (0, 0, 0, 60), (67, 0, 0, 0), (38, 4, 2, 0), (53, 0, 0, 0)]
def z_i57 : List zJ := [(0, .aload_n 0, 1, []), (1, .getfield 15, 3, [256]), (4, .iconst 5, 1, []), (5, .imul, 1, []), (6, .istore 6, 2, []), (8, .iload 6, 2, []), (10, .ifCond .lt 15, 3, []), (13, .iload 6, 2, []), (15, .iconst 5, 1, []), (16, .iadd, 1, []), (17, .aload_n 0, 1, []), (18, .getfield 11, 3, [255]), (21, .arraylength, 1, []), (22, .if_icmp .le 4, 3, []), (25, .return_, 1, []), (26, .aload_n 0, 1, []), (27, .getfield 11, 3, [255]), (30, .iload 6, 2, []), (32, .iload_n 1, 1, []), (33, .iastore, 1, []), (34, .aload_n 0, 1, []), (35, .getfield 11, 3, [255]), (38, .iload 6, 2, []), (40, .iconst 1, 1, []), (41, .iadd, 1, []), (42, .iload_n 2, 1, []), (43, .iastore, 1, []), (44, .aload_n 0, 1, []), (45, .getfield 11, 3, [255]), (48, .iload 6, 2, []), (50, .iconst 2, 1, []), (51, .iadd, 1, []), (52, .iload_n 3, 1, []), (53, .iastore, 1, []), (54, .aload_n 0, 1, []), (55, .getfield 11, 3, [255]), (58, .iload 6, 2, []), (60, .iconst 3, 1, []), (61, .iadd, 1, []), (62, .iload 4, 2, []), (64, .iastore, 1, []), (65, .aload_n 0, 1, []), (66, .getfield 11, 3, [255]), (69, .iload 6, 2, []), (71, .iconst 4, 1, []), (72, .iadd, 1, []), (73, .iload 5, 2, []), (75, .iastore, 1, []), (76, .aload_n 0, 1, []), (77, .aload_n 0, 1, []), (78, .getfield 15, 3, [256]), (81, .iconst 1, 1, []), (82, .iadd, 1, []), (83, .bipush 60, 2, []), (85, .irem, 1, []), (86, .putfield 15, 3, [256]), (89, .aload_n 0, 1, []), (90, .aload_n 0, 1, []), (91, .getfield 19, 3, [257]), (94, .iconst 1, 1, []), (95, .iadd, 1, []), (96, .bipush 60, 2, []), (98, .invokestatic 28, 3, [1263]), (101, .putfield 19, 3, [257]), (104, .return_, 1, [])]
def z_h57 : List (Nat × Nat × Nat × Nat × Nat × Nat × Nat) := []
def z_m58 : zMi := (RX5, yX5_entry, cX5_entry, 3, some .int, [])
def z_c58 : List zI := [(1, 1, 0, 0), (31, 11, 2, 0), (1, 1, 0, 0), (2, 0, 0, 0), (37, 4, 2, 0), (32, 11, 3, 0), (1, 2, 0, 0), (31, 11, 2, 0), (1, 2, 0, 0), (0, 0, 0, 5), (32, 13, 2, 0), (0, 0, 0, -1), (50, 0, 0, 0), (2, 0, 0, 0), (37, 4, 0, 0), (2, 0, 0, 0), (37, 4, 1, 0), (0, 0, 0, 1), (9, 0, 0, 0), (1, 1, 0, 0), (9, 0, 0, 0), (0, 0, 0, 60), (55, 312, 2, 0), (0, 0, 0, 5), (10, 0, 0, 0), (1, 2, 0, 0), (8, 0, 0, 0), (39, 0, 0, 0), (50, 0, 0, 0)]
def z_i58 : List zJ := [(0, .iload_n 1, 1, []), (1, .ifCond .lt 20, 3, []), (4, .iload_n 1, 1, []), (5, .aload_n 0, 1, []), (6, .getfield 19, 3, [257]), (9, .if_icmp .ge 12, 3, []), (12, .iload_n 2, 1, []), (13, .ifCond .lt 8, 3, []), (16, .iload_n 2, 1, []), (17, .iconst 5, 1, []), (18, .if_icmp .lt 5, 3, []), (21, .iconst (-1), 1, []), (22, .ireturn, 1, []), (23, .aload_n 0, 1, []), (24, .getfield 11, 3, [255]), (27, .aload_n 0, 1, []), (28, .getfield 15, 3, [256]), (31, .iconst 1, 1, []), (32, .isub, 1, []), (33, .iload_n 1, 1, []), (34, .isub, 1, []), (35, .bipush 60, 2, []), (37, .invokestatic 34, 3, [1438, 452, 117, 453]), (40, .iconst 5, 1, []), (41, .imul, 1, []), (42, .iload_n 2, 1, []), (43, .iadd, 1, []), (44, .iaload, 1, []), (45, .ireturn, 1, [])]
def z_h58 : List (Nat × Nat × Nat × Nat × Nat × Nat × Nat) := []
def z_m59 : zMi := (RX5, yX5_rowsOfFamily, cX5_rowsOfFamily, 4, some .int, [])
def z_c59 : List zI := [(0, 0, 0, 0), (4, 2, 0, 0), (0, 0, 0, 0), (4, 3, 0, 0), (1, 3, 0, 0), (2, 0, 0, 0), (37, 4, 2, 0), (32, 17, 3, 0), (2, 0, 0, 0), (1, 3, 0, 0), (0, 0, 0, 2), (54, 58, 2, 4), (1, 1, 0, 0), (32, 15, 1, 0), (7, 2, 0, 1), (7, 3, 0, 1), (30, 4, 0, 0), (1, 2, 0, 0), (50, 0, 0, 0)]
def z_i59 : List zJ := [(0, .iconst 0, 1, []), (1, .istore_n 2, 1, []), (2, .iconst 0, 1, []), (3, .istore_n 3, 1, []), (4, .iload_n 3, 1, []), (5, .aload_n 0, 1, []), (6, .getfield 19, 3, [257]), (9, .if_icmp .ge 22, 3, []), (12, .aload_n 0, 1, []), (13, .iload_n 3, 1, []), (14, .iconst 2, 1, []), (15, .invokevirtual 37, 3, [1434, 1435, 1436, 107, 1437]), (18, .iload_n 1, 1, []), (19, .if_icmp .ne 6, 3, []), (22, .iinc 2 1, 3, []), (25, .iinc 3 1, 3, []), (28, .goto (-24), 3, []), (31, .iload_n 2, 1, []), (32, .ireturn, 1, [])]
def z_h59 : List (Nat × Nat × Nat × Nat × Nat × Nat × Nat) := []
def z_m60 : zMi := (RX5, yX5_latestDayOf, cX5_latestDayOf, 3, some .int, [])
def z_c60 : List zI := [(0, 0, 0, 0), (4, 2, 0, 0), (1, 2, 0, 0), (2, 0, 0, 0), (37, 4, 2, 0), (32, 19, 3, 0), (2, 0, 0, 0), (1, 2, 0, 0), (0, 0, 0, 2), (54, 58, 2, 4), (1, 1, 0, 0), (32, 17, 1, 0), (2, 0, 0, 0), (1, 2, 0, 0), (0, 0, 0, 0), (54, 58, 2, 4), (50, 0, 0, 0), (7, 2, 0, 1), (30, 2, 0, 0), (0, 0, 0, -1), (50, 0, 0, 0)]
def z_i60 : List zJ := [(0, .iconst 0, 1, []), (1, .istore_n 2, 1, []), (2, .iload_n 2, 1, []), (3, .aload_n 0, 1, []), (4, .getfield 19, 3, [257]), (7, .if_icmp .ge 26, 3, []), (10, .aload_n 0, 1, []), (11, .iload_n 2, 1, []), (12, .iconst 2, 1, []), (13, .invokevirtual 37, 3, [1434, 1435, 1436, 107, 1437]), (16, .iload_n 1, 1, []), (17, .if_icmp .ne 10, 3, []), (20, .aload_n 0, 1, []), (21, .iload_n 2, 1, []), (22, .iconst 0, 1, []), (23, .invokevirtual 37, 3, [1434, 1435, 1436, 107, 1437]), (26, .ireturn, 1, []), (27, .iinc 2 1, 3, []), (30, .goto (-28), 3, []), (33, .iconst (-1), 1, []), (34, .ireturn, 1, [])]
def z_h60 : List (Nat × Nat × Nat × Nat × Nat × Nat × Nat) := []
def z_m61 : zMi := (RX6, yX6_init, cX6_init, 2, none, [])
def z_c61 : List zI := [(2, 0, 0, 0), (57, 0, 0, 0), (2, 0, 0, 0), (0, 0, 0, 12), (48, 0, 0, 0), (38, 5, 0, 2), (2, 0, 0, 0), (0, 0, 0, 0), (38, 5, 1, 0), (2, 0, 0, 0), (0, 0, 0, 0), (38, 5, 2, 0), (0, 0, 0, 0), (4, 1, 0, 0), (1, 1, 0, 0), (0, 0, 0, 12), (32, 26, 3, 0), (2, 0, 0, 0), (37, 5, 0, 0), (1, 1, 0, 0), (49, 1, 0, 0), (27, 0, 0, 0), (56, 22, 0, 0), (45, 0, 0, 0), (7, 1, 0, 1), (30, 14, 0, 0), (53, 0, 0, 0)]
def z_i61 : List zJ := [(0, .aload_n 0, 1, []), (1, .invokespecial 1, 3, [351, 136, 137]), (4, .aload_n 0, 1, []), (5, .bipush 12, 2, []), (7, .anewarray 9, 3, [352]), (10, .putfield 11, 3, [355]), (13, .aload_n 0, 1, []), (14, .iconst 0, 1, []), (15, .putfield 15, 3, [356]), (18, .aload_n 0, 1, []), (19, .iconst 0, 1, []), (20, .putfield 19, 3, [357]), (23, .iconst 0, 1, []), (24, .istore_n 1, 1, []), (25, .iload_n 1, 1, []), (26, .bipush 12, 2, []), (28, .if_icmp .ge 22, 3, []), (31, .aload_n 0, 1, []), (32, .getfield 11, 3, [355]), (35, .iload_n 1, 1, []), (36, .new 9, 3, [352, 185, 104]), (39, .dup, 1, []), (40, .invokespecial 22, 3, [354, 187, 104, 188]), (43, .aastore, 1, []), (44, .iinc 1 1, 3, []), (47, .goto (-22), 3, []), (50, .return_, 1, [])]
def z_h61 : List (Nat × Nat × Nat × Nat × Nat × Nat × Nat) := []
def z_m62 : zMi := (RX6, yX6_keep, cX6_keep, 2, none, [])
def z_c62 : List zI := [(2, 0, 0, 0), (37, 5, 0, 0), (2, 0, 0, 0), (37, 5, 1, 0), (44, 0, 0, 0), (2, 1, 0, 0), (54, 23, 1, 1), (2, 0, 0, 0), (2, 0, 0, 0), (37, 5, 1, 0), (0, 0, 0, 1), (8, 0, 0, 0), (0, 0, 0, 12), (12, 0, 0, 0), (38, 5, 1, 0), (2, 0, 0, 0), (2, 0, 0, 0), (37, 5, 2, 0), (0, 0, 0, 1), (8, 0, 0, 0), (0, 0, 0, 12), (67, 0, 0, 0), (38, 5, 2, 0), (53, 0, 0, 0)]
def z_i62 : List zJ := [(0, .aload_n 0, 1, []), (1, .getfield 11, 3, [355]), (4, .aload_n 0, 1, []), (5, .getfield 15, 3, [356]), (8, .aaload, 1, []), (9, .aload_n 1, 1, []), (10, .invokevirtual 23, 3, [415, 416, 417, 104, 418]), (13, .aload_n 0, 1, []), (14, .aload_n 0, 1, []), (15, .getfield 15, 3, [356]), (18, .iconst 1, 1, []), (19, .iadd, 1, []), (20, .bipush 12, 2, []), (22, .irem, 1, []), (23, .putfield 15, 3, [356]), (26, .aload_n 0, 1, []), (27, .aload_n 0, 1, []), (28, .getfield 19, 3, [357]), (31, .iconst 1, 1, []), (32, .iadd, 1, []), (33, .bipush 12, 2, []), (35, .invokestatic 27, 3, [437]), (38, .putfield 19, 3, [357]), (41, .return_, 1, [])]
def z_h62 : List (Nat × Nat × Nat × Nat × Nat × Nat × Nat) := []
def z_m63 : zMi := (RX6, yX6_takeBack, cX6_takeBack, 2, some .boolean, [])
def z_c63 : List zI := [(2, 0, 0, 0), (37, 5, 2, 0), (31, 5, 1, 0), (0, 0, 0, 0), (50, 0, 0, 0), (2, 0, 0, 0), (2, 0, 0, 0), (37, 5, 1, 0), (0, 0, 0, 12), (8, 0, 0, 0), (0, 0, 0, 1), (9, 0, 0, 0), (0, 0, 0, 12), (12, 0, 0, 0), (38, 5, 1, 0), (2, 0, 0, 0), (27, 0, 0, 0), (37, 5, 2, 0), (0, 0, 0, 1), (9, 0, 0, 0), (38, 5, 2, 0), (2, 1, 0, 0), (2, 0, 0, 0), (37, 5, 0, 0), (2, 0, 0, 0), (37, 5, 1, 0), (44, 0, 0, 0), (54, 23, 1, 1), (0, 0, 0, 1), (50, 0, 0, 0)]
def z_i63 : List zJ := [(0, .aload_n 0, 1, []), (1, .getfield 19, 3, [357]), (4, .ifCond .ne 5, 3, []), (7, .iconst 0, 1, []), (8, .ireturn, 1, []), (9, .aload_n 0, 1, []), (10, .aload_n 0, 1, []), (11, .getfield 15, 3, [356]), (14, .bipush 12, 2, []), (16, .iadd, 1, []), (17, .iconst 1, 1, []), (18, .isub, 1, []), (19, .bipush 12, 2, []), (21, .irem, 1, []), (22, .putfield 15, 3, [356]), (25, .aload_n 0, 1, []), (26, .dup, 1, []), (27, .getfield 19, 3, [357]), (30, .iconst 1, 1, []), (31, .isub, 1, []), (32, .putfield 19, 3, [357]), (35, .aload_n 1, 1, []), (36, .aload_n 0, 1, []), (37, .getfield 11, 3, [355]), (40, .aload_n 0, 1, []), (41, .getfield 15, 3, [356]), (44, .aaload, 1, []), (45, .invokevirtual 23, 3, [415, 416, 417, 104, 418]), (48, .iconst 1, 1, []), (49, .ireturn, 1, [])]
def z_h63 : List (Nat × Nat × Nat × Nat × Nat × Nat × Nat) := []
def z_m64 : zMi := (RX6, yX6_forget, cX6_forget, 1, none, [])
def z_c64 : List zI := [(2, 0, 0, 0), (0, 0, 0, 0), (38, 5, 2, 0), (53, 0, 0, 0)]
def z_i64 : List zJ := [(0, .aload_n 0, 1, []), (1, .iconst 0, 1, []), (2, .putfield 19, 3, [357]), (5, .return_, 1, [])]
def z_h64 : List (Nat × Nat × Nat × Nat × Nat × Nat × Nat) := []
def z_m65 : zMi := (RX7, yX7_longestRow, cX7_longestRow, 3, some .int, [])
def z_c65 : List zI := [(1, 0, 0, 0), (4, 1, 0, 0), (0, 0, 0, 0), (4, 2, 0, 0), (1, 1, 0, 0), (31, 16, 0, 0), (1, 2, 0, 0), (0, 0, 0, 24), (32, 16, 3, 0), (1, 0, 0, 0), (1, 1, 0, 0), (55, 66, 1, 0), (16, 0, 0, 0), (4, 1, 0, 0), (7, 2, 0, 1), (30, 4, 0, 0), (1, 2, 0, 0), (50, 0, 0, 0)]
def z_i65 : List zJ := [(0, .iload_n 0, 1, []), (1, .istore_n 1, 1, []), (2, .iconst 0, 1, []), (3, .istore_n 2, 1, []), (4, .iload_n 1, 1, []), (5, .ifCond .eq 22, 3, []), (8, .iload_n 2, 1, []), (9, .bipush 24, 2, []), (11, .if_icmp .ge 16, 3, []), (14, .iload_n 0, 1, []), (15, .iload_n 1, 1, []), (16, .invokestatic 9, 3, [1061, 1062, 127, 1063]), (19, .iand, 1, []), (20, .istore_n 1, 1, []), (21, .iinc 2 1, 3, []), (24, .goto (-20), 3, []), (27, .iload_n 2, 1, []), (28, .ireturn, 1, [])]
def z_h65 : List (Nat × Nat × Nat × Nat × Nat × Nat × Nat) := []
def z_m66 : zMi := (RX7, yX7_hourLater, cX7_hourLater, 1, some .int, [])
def z_c66 : List zI := [(1, 0, 0, 0), (0, 0, 0, 1), (13, 0, 0, 0), (1, 0, 0, 0), (0, 0, 0, 23), (14, 0, 0, 0), (17, 0, 0, 0), (0, 0, 0, 16777215), (16, 0, 0, 0), (50, 0, 0, 0)]
def z_i66 : List zJ := [(0, .iload_n 0, 1, []), (1, .iconst 1, 1, []), (2, .ishl, 1, []), (3, .iload_n 0, 1, []), (4, .bipush 23, 2, []), (6, .ishr, 1, []), (7, .ior, 1, []), (8, .ldc 15, 2, [461]), (10, .iand, 1, []), (11, .ireturn, 1, [])]
def z_h66 : List (Nat × Nat × Nat × Nat × Nat × Nat × Nat) := []
def z_m67 : zMi := (RX7, yX7_hourSooner, cX7_hourSooner, 1, some .int, [])
def z_c67 : List zI := [(1, 0, 0, 0), (0, 0, 0, 1), (14, 0, 0, 0), (1, 0, 0, 0), (0, 0, 0, 23), (13, 0, 0, 0), (17, 0, 0, 0), (0, 0, 0, 16777215), (16, 0, 0, 0), (50, 0, 0, 0)]
def z_i67 : List zJ := [(0, .iload_n 0, 1, []), (1, .iconst 1, 1, []), (2, .ishr, 1, []), (3, .iload_n 0, 1, []), (4, .bipush 23, 2, []), (6, .ishl, 1, []), (7, .ior, 1, []), (8, .ldc 15, 2, [461]), (10, .iand, 1, []), (11, .ireturn, 1, [])]
def z_h67 : List (Nat × Nat × Nat × Nat × Nat × Nat × Nat) := []
def z_m68 : zMi := (RX7, yX7_comesIn, cX7_comesIn, 3, some .int, [])
def z_c68 : List zI := [(0, 0, 0, 0), (4, 2, 0, 0), (1, 2, 0, 0), (0, 0, 0, 24), (32, 17, 3, 0), (2, 0, 0, 0), (2, 0, 0, 0), (37, 1, 7, 0), (1, 2, 0, 0), (8, 0, 0, 0), (54, 26, 1, 1), (1, 1, 0, 0), (32, 15, 1, 0), (1, 2, 0, 0), (50, 0, 0, 0), (7, 2, 0, 1), (30, 2, 0, 0), (0, 0, 0, -1), (50, 0, 0, 0)]
def z_i68 : List zJ := [(0, .iconst 0, 1, []), (1, .istore_n 2, 1, []), (2, .iload_n 2, 1, []), (3, .bipush 24, 2, []), (5, .if_icmp .ge 25, 3, []), (8, .aload_n 0, 1, []), (9, .aload_n 0, 1, []), (10, .getfield 16, 3, [288]), (13, .iload_n 2, 1, []), (14, .iadd, 1, []), (15, .invokevirtual 22, 3, [447, 448, 449, 104, 450]), (18, .iload_n 1, 1, []), (19, .if_icmp .ne 5, 3, []), (22, .iload_n 2, 1, []), (23, .ireturn, 1, []), (24, .iinc 2 1, 3, []), (27, .goto (-25), 3, []), (30, .iconst (-1), 1, []), (31, .ireturn, 1, [])]
def z_h68 : List (Nat × Nat × Nat × Nat × Nat × Nat × Nat) := []
def z_m69 : zMi := (RX7, yX7_changesOf, cX7_changesOf, 3, some .int, [])
def z_c69 : List zI := [(0, 0, 0, 0), (4, 1, 0, 0), (0, 0, 0, 0), (4, 2, 0, 0), (1, 2, 0, 0), (0, 0, 0, 24), (32, 19, 3, 0), (2, 0, 0, 0), (1, 2, 0, 0), (54, 26, 1, 1), (2, 0, 0, 0), (1, 2, 0, 0), (0, 0, 0, 1), (8, 0, 0, 0), (54, 26, 1, 1), (32, 17, 0, 0), (7, 1, 0, 1), (7, 2, 0, 1), (30, 4, 0, 0), (1, 1, 0, 0), (50, 0, 0, 0)]
def z_i69 : List zJ := [(0, .iconst 0, 1, []), (1, .istore_n 1, 1, []), (2, .iconst 0, 1, []), (3, .istore_n 2, 1, []), (4, .iload_n 2, 1, []), (5, .bipush 24, 2, []), (7, .if_icmp .ge 27, 3, []), (10, .aload_n 0, 1, []), (11, .iload_n 2, 1, []), (12, .invokevirtual 22, 3, [447, 448, 449, 104, 450]), (15, .aload_n 0, 1, []), (16, .iload_n 2, 1, []), (17, .iconst 1, 1, []), (18, .iadd, 1, []), (19, .invokevirtual 22, 3, [447, 448, 449, 104, 450]), (22, .if_icmp .eq 6, 3, []), (25, .iinc 1 1, 3, []), (28, .iinc 2 1, 3, []), (31, .goto (-27), 3, []), (34, .iload_n 1, 1, []), (35, .ireturn, 1, [])]
def z_h69 : List (Nat × Nat × Nat × Nat × Nat × Nat × Nat) := []
def z_m70 : zMi := (RX7, yX7_meetings, cX7_meetings, 5, some .int, [])
def z_c70 : List zI := [(2, 0, 0, 0), (0, 0, 0, 1), (1, 1, 0, 0), (13, 0, 0, 0), (54, 28, 1, 1), (4, 3, 0, 0), (2, 0, 0, 0), (0, 0, 0, 1), (1, 2, 0, 0), (13, 0, 0, 0), (54, 28, 1, 1), (4, 4, 0, 0), (1, 3, 0, 0), (1, 4, 0, 0), (55, 67, 1, 0), (16, 0, 0, 0), (1, 4, 0, 0), (1, 3, 0, 0), (55, 67, 1, 0), (16, 0, 0, 0), (17, 0, 0, 0), (50, 0, 0, 0)]
def z_i70 : List zJ := [(0, .aload_n 0, 1, []), (1, .iconst 1, 1, []), (2, .iload_n 1, 1, []), (3, .ishl, 1, []), (4, .invokevirtual 25, 3, [466, 467, 468, 104, 469]), (7, .istore_n 3, 1, []), (8, .aload_n 0, 1, []), (9, .iconst 1, 1, []), (10, .iload_n 2, 1, []), (11, .ishl, 1, []), (12, .invokevirtual 25, 3, [466, 467, 468, 104, 469]), (15, .istore 4, 2, []), (17, .iload_n 3, 1, []), (18, .iload 4, 2, []), (20, .invokestatic 28, 3, [552, 553, 127, 554]), (23, .iand, 1, []), (24, .iload 4, 2, []), (26, .iload_n 3, 1, []), (27, .invokestatic 28, 3, [552, 553, 127, 554]), (30, .iand, 1, []), (31, .ior, 1, []), (32, .ireturn, 1, [])]
def z_h70 : List (Nat × Nat × Nat × Nat × Nat × Nat × Nat) := []
def z_m71 : zMi := (RX7, yX7_gapsOf, cX7_gapsOf, 1, some .int, [])
def z_c71 : List zI := [(0, 0, 0, 16777215), (2, 0, 0, 0), (2, 0, 0, 0), (37, 1, 1, 0), (54, 11, 0, 0), (54, 28, 1, 1), (0, 0, 0, -1), (18, 0, 0, 0), (16, 0, 0, 0), (50, 0, 0, 0)]
def z_i71 : List zJ := [(0, .ldc 15, 2, [461]), (2, .aload_n 0, 1, []), (3, .aload_n 0, 1, []), (4, .getfield 31, 3, [274]), (7, .invokevirtual 35, 3, [462, 463, 464, 105, 465]), (10, .invokevirtual 25, 3, [466, 467, 468, 104, 469]), (13, .iconst (-1), 1, []), (14, .ixor, 1, []), (15, .iand, 1, []), (16, .ireturn, 1, [])]
def z_h71 : List (Nat × Nat × Nat × Nat × Nat × Nat × Nat) := []
def z_m72 : zMi := (RX7, yX7_loversOf, cX7_loversOf, 4, some .int, [])
def z_c72 : List zI := [(0, 0, 0, 0), (4, 1, 0, 0), (0, 0, 0, 1), (4, 2, 0, 0), (1, 2, 0, 0), (2, 0, 0, 0), (37, 1, 1, 0), (37, 0, 4, 0), (32, 26, 3, 0), (0, 0, 0, 0), (4, 3, 0, 0), (1, 3, 0, 0), (1, 2, 0, 0), (32, 24, 3, 0), (2, 0, 0, 0), (1, 3, 0, 0), (1, 2, 0, 0), (55, 70, 3, 0), (55, 311, 1, 0), (0, 0, 0, 2), (32, 22, 2, 0), (7, 1, 0, 1), (7, 3, 0, 1), (30, 11, 0, 0), (7, 2, 0, 1), (30, 4, 0, 0), (1, 1, 0, 0), (50, 0, 0, 0)]
def z_i72 : List zJ := [(0, .iconst 0, 1, []), (1, .istore_n 1, 1, []), (2, .iconst 1, 1, []), (3, .istore_n 2, 1, []), (4, .iload_n 2, 1, []), (5, .aload_n 0, 1, []), (6, .getfield 31, 3, [274]), (9, .getfield 41, 3, [210]), (12, .if_icmp .ge 38, 3, []), (15, .iconst 0, 1, []), (16, .istore_n 3, 1, []), (17, .iload_n 3, 1, []), (18, .iload_n 2, 1, []), (19, .if_icmp .ge 25, 3, []), (22, .aload_n 0, 1, []), (23, .iload_n 3, 1, []), (24, .iload_n 2, 1, []), (25, .invokestatic 44, 3, [549, 550, 127, 551]), (28, .invokestatic 48, 3, [481, 482, 126, 483]), (31, .iconst 2, 1, []), (32, .if_icmp .lt 6, 3, []), (35, .iinc 1 1, 3, []), (38, .iinc 3 1, 3, []), (41, .goto (-24), 3, []), (44, .iinc 2 1, 3, []), (47, .goto (-43), 3, []), (50, .iload_n 1, 1, []), (51, .ireturn, 1, [])]
def z_h72 : List (Nat × Nat × Nat × Nat × Nat × Nat × Nat) := []
def z_m73 : zMi := (RX7, yX7_lessonOf, cX7_lessonOf, 5, some .int, [])
def z_c73 : List zI := [(0, 0, 0, 0), (4, 2, 0, 0), (0, 0, 0, 0), (4, 3, 0, 0), (1, 3, 0, 0), (2, 0, 0, 0), (37, 1, 1, 0), (37, 0, 4, 0), (32, 29, 3, 0), (2, 0, 0, 0), (0, 0, 0, 1), (1, 3, 0, 0), (13, 0, 0, 0), (54, 28, 1, 1), (2, 0, 0, 0), (37, 1, 1, 0), (37, 0, 3, 0), (1, 3, 0, 0), (39, 0, 0, 0), (16, 0, 0, 0), (4, 4, 0, 0), (1, 2, 0, 0), (1, 4, 0, 0), (1, 1, 0, 0), (55, 74, 2, 0), (17, 0, 0, 0), (4, 2, 0, 0), (7, 3, 0, 1), (30, 4, 0, 0), (0, 0, 0, 0), (4, 3, 0, 0), (1, 3, 0, 0), (0, 0, 0, 24), (32, 45, 3, 0), (1, 2, 0, 0), (1, 3, 0, 0), (14, 0, 0, 0), (0, 0, 0, 1), (16, 0, 0, 0), (0, 0, 0, 1), (32, 43, 1, 0), (1, 3, 0, 0), (50, 0, 0, 0), (7, 3, 0, 1), (30, 31, 0, 0), (0, 0, 0, -1), (50, 0, 0, 0)]
def z_i73 : List zJ := [(0, .iconst 0, 1, []), (1, .istore_n 2, 1, []), (2, .iconst 0, 1, []), (3, .istore_n 3, 1, []), (4, .iload_n 3, 1, []), (5, .aload_n 0, 1, []), (6, .getfield 31, 3, [274]), (9, .getfield 41, 3, [210]), (12, .if_icmp .ge 37, 3, []), (15, .aload_n 0, 1, []), (16, .iconst 1, 1, []), (17, .iload_n 3, 1, []), (18, .ishl, 1, []), (19, .invokevirtual 25, 3, [466, 467, 468, 104, 469]), (22, .aload_n 0, 1, []), (23, .getfield 31, 3, [274]), (26, .getfield 53, 3, [206]), (29, .iload_n 3, 1, []), (30, .iaload, 1, []), (31, .iand, 1, []), (32, .istore 4, 2, []), (34, .iload_n 2, 1, []), (35, .iload 4, 2, []), (37, .iload_n 1, 1, []), (38, .invokestatic 57, 3, [1368, 1369, 127, 1370]), (41, .ior, 1, []), (42, .istore_n 2, 1, []), (43, .iinc 3 1, 3, []), (46, .goto (-42), 3, []), (49, .iconst 0, 1, []), (50, .istore_n 3, 1, []), (51, .iload_n 3, 1, []), (52, .bipush 24, 2, []), (54, .if_icmp .ge 20, 3, []), (57, .iload_n 2, 1, []), (58, .iload_n 3, 1, []), (59, .ishr, 1, []), (60, .iconst 1, 1, []), (61, .iand, 1, []), (62, .iconst 1, 1, []), (63, .if_icmp .ne 5, 3, []), (66, .iload_n 3, 1, []), (67, .ireturn, 1, []), (68, .iinc 3 1, 3, []), (71, .goto (-20), 3, []), (74, .iconst (-1), 1, []), (75, .ireturn, 1, [])]
def z_h73 : List (Nat × Nat × Nat × Nat × Nat × Nat × Nat) := []
def z_m74 : zMi := (RX7, yX7_startsOfRows, cX7_startsOfRows, 4, some .int, [])
def z_c74 : List zI := [(1, 0, 0, 0), (4, 2, 0, 0), (0, 0, 0, 1), (4, 3, 0, 0), (1, 3, 0, 0), (1, 1, 0, 0), (32, 14, 3, 0), (1, 0, 0, 0), (1, 2, 0, 0), (55, 67, 1, 0), (16, 0, 0, 0), (4, 2, 0, 0), (7, 3, 0, 1), (30, 4, 0, 0), (1, 2, 0, 0), (50, 0, 0, 0)]
def z_i74 : List zJ := [(0, .iload_n 0, 1, []), (1, .istore_n 2, 1, []), (2, .iconst 1, 1, []), (3, .istore_n 3, 1, []), (4, .iload_n 3, 1, []), (5, .iload_n 1, 1, []), (6, .if_icmp .ge 16, 3, []), (9, .iload_n 0, 1, []), (10, .iload_n 2, 1, []), (11, .invokestatic 28, 3, [552, 553, 127, 554]), (14, .iand, 1, []), (15, .istore_n 2, 1, []), (16, .iinc 3 1, 3, []), (19, .goto (-15), 3, []), (22, .iload_n 2, 1, []), (23, .ireturn, 1, [])]
def z_h74 : List (Nat × Nat × Nat × Nat × Nat × Nat × Nat) := []
def z_m75 : zMi := (RX7, yX7_widowsOf, cX7_widowsOf, 3, some .int, [])
def z_c75 : List zI := [(0, 0, 0, 0), (4, 1, 0, 0), (0, 0, 0, 0), (4, 2, 0, 0), (1, 2, 0, 0), (2, 0, 0, 0), (37, 1, 1, 0), (37, 0, 4, 0), (32, 25, 3, 0), (2, 0, 0, 0), (0, 0, 0, 1), (1, 2, 0, 0), (13, 0, 0, 0), (54, 28, 1, 1), (55, 311, 1, 0), (0, 0, 0, 1), (32, 23, 1, 0), (1, 1, 0, 0), (0, 0, 0, 1), (1, 2, 0, 0), (13, 0, 0, 0), (17, 0, 0, 0), (4, 1, 0, 0), (7, 2, 0, 1), (30, 4, 0, 0), (1, 1, 0, 0), (50, 0, 0, 0)]
def z_i75 : List zJ := [(0, .iconst 0, 1, []), (1, .istore_n 1, 1, []), (2, .iconst 0, 1, []), (3, .istore_n 2, 1, []), (4, .iload_n 2, 1, []), (5, .aload_n 0, 1, []), (6, .getfield 31, 3, [274]), (9, .getfield 41, 3, [210]), (12, .if_icmp .ge 29, 3, []), (15, .aload_n 0, 1, []), (16, .iconst 1, 1, []), (17, .iload_n 2, 1, []), (18, .ishl, 1, []), (19, .invokevirtual 25, 3, [466, 467, 468, 104, 469]), (22, .invokestatic 48, 3, [481, 482, 126, 483]), (25, .iconst 1, 1, []), (26, .if_icmp .ne 9, 3, []), (29, .iload_n 1, 1, []), (30, .iconst 1, 1, []), (31, .iload_n 2, 1, []), (32, .ishl, 1, []), (33, .ior, 1, []), (34, .istore_n 1, 1, []), (35, .iinc 2 1, 3, []), (38, .goto (-34), 3, []), (41, .iload_n 1, 1, []), (42, .ireturn, 1, [])]
def z_h75 : List (Nat × Nat × Nat × Nat × Nat × Nat × Nat) := []
def z_m76 : zMi := (RX7, yX7_mostDealt, cX7_mostDealt, 6, some .int, [])
def z_c76 : List zI := [(2, 0, 0, 0), (37, 1, 1, 0), (54, 11, 0, 0), (4, 1, 0, 0), (0, 0, 0, 24), (4, 2, 0, 0), (0, 0, 0, 0), (4, 3, 0, 0), (1, 3, 0, 0), (1, 1, 0, 0), (32, 34, 4, 0), (2, 0, 0, 0), (37, 1, 1, 0), (1, 3, 0, 0), (54, 15, 1, 0), (55, 311, 1, 0), (4, 4, 0, 0), (2, 0, 0, 0), (1, 1, 0, 0), (1, 3, 0, 0), (0, 0, 0, -1), (18, 0, 0, 0), (16, 0, 0, 0), (54, 28, 1, 1), (55, 311, 1, 0), (4, 5, 0, 0), (1, 2, 0, 0), (1, 4, 0, 0), (1, 5, 0, 0), (8, 0, 0, 0), (67, 0, 0, 0), (4, 2, 0, 0), (7, 3, 0, 1), (30, 8, 0, 0), (1, 2, 0, 0), (50, 0, 0, 0)]
def z_i76 : List zJ := [(0, .aload_n 0, 1, []), (1, .getfield 31, 3, [274]), (4, .invokevirtual 35, 3, [462, 463, 464, 105, 465]), (7, .istore_n 1, 1, []), (8, .bipush 24, 2, []), (10, .istore_n 2, 1, []), (11, .iconst 0, 1, []), (12, .istore_n 3, 1, []), (13, .iload_n 3, 1, []), (14, .iload_n 1, 1, []), (15, .if_icmp .gt 46, 3, []), (18, .aload_n 0, 1, []), (19, .getfield 31, 3, [274]), (22, .iload_n 3, 1, []), (23, .invokevirtual 61, 3, [477, 478, 479, 105, 480]), (26, .invokestatic 48, 3, [481, 482, 126, 483]), (29, .istore 4, 2, []), (31, .aload_n 0, 1, []), (32, .iload_n 1, 1, []), (33, .iload_n 3, 1, []), (34, .iconst (-1), 1, []), (35, .ixor, 1, []), (36, .iand, 1, []), (37, .invokevirtual 25, 3, [466, 467, 468, 104, 469]), (40, .invokestatic 48, 3, [481, 482, 126, 483]), (43, .istore 5, 2, []), (45, .iload_n 2, 1, []), (46, .iload 4, 2, []), (48, .iload 5, 2, []), (50, .iadd, 1, []), (51, .invokestatic 64, 3, [487]), (54, .istore_n 2, 1, []), (55, .iinc 3 1, 3, []), (58, .goto (-45), 3, []), (61, .iload_n 2, 1, []), (62, .ireturn, 1, [])]
def z_h76 : List (Nat × Nat × Nat × Nat × Nat × Nat × Nat) := []
def z_m77 : zMi := (RX7, yX7_bestSwap, cX7_bestSwap, 6, some .int, [])
def z_c77 : List zI := [(0, 0, 0, -1), (4, 1, 0, 0), (0, 0, 0, 0), (4, 2, 0, 0), (0, 0, 0, 0), (4, 3, 0, 0), (1, 3, 0, 0), (0, 0, 0, 24), (32, 36, 3, 0), (1, 3, 0, 0), (0, 0, 0, 1), (8, 0, 0, 0), (4, 4, 0, 0), (1, 4, 0, 0), (0, 0, 0, 24), (32, 34, 3, 0), (2, 0, 0, 0), (1, 3, 0, 0), (1, 4, 0, 0), (55, 78, 3, 0), (4, 5, 0, 0), (1, 5, 0, 0), (1, 2, 0, 0), (32, 32, 5, 0), (1, 5, 0, 0), (4, 2, 0, 0), (0, 0, 0, 24), (1, 3, 0, 0), (10, 0, 0, 0), (1, 4, 0, 0), (8, 0, 0, 0), (4, 1, 0, 0), (7, 4, 0, 1), (30, 13, 0, 0), (7, 3, 0, 1), (30, 6, 0, 0), (1, 1, 0, 0), (50, 0, 0, 0)]
def z_i77 : List zJ := [(0, .iconst (-1), 1, []), (1, .istore_n 1, 1, []), (2, .iconst 0, 1, []), (3, .istore_n 2, 1, []), (4, .iconst 0, 1, []), (5, .istore_n 3, 1, []), (6, .iload_n 3, 1, []), (7, .bipush 24, 2, []), (9, .if_icmp .ge 53, 3, []), (12, .iload_n 3, 1, []), (13, .iconst 1, 1, []), (14, .iadd, 1, []), (15, .istore 4, 2, []), (17, .iload 4, 2, []), (19, .bipush 24, 2, []), (21, .if_icmp .ge 35, 3, []), (24, .aload_n 0, 1, []), (25, .iload_n 3, 1, []), (26, .iload 4, 2, []), (28, .invokestatic 69, 3, [495, 496, 127, 497]), (31, .istore 5, 2, []), (33, .iload 5, 2, []), (35, .iload_n 2, 1, []), (36, .if_icmp .le 14, 3, []), (39, .iload 5, 2, []), (41, .istore_n 2, 1, []), (42, .bipush 24, 2, []), (44, .iload_n 3, 1, []), (45, .imul, 1, []), (46, .iload 4, 2, []), (48, .iadd, 1, []), (49, .istore_n 1, 1, []), (50, .iinc 4 1, 3, []), (53, .goto (-36), 3, []), (56, .iinc 3 1, 3, []), (59, .goto (-53), 3, []), (62, .iload_n 1, 1, []), (63, .ireturn, 1, [])]
def z_h77 : List (Nat × Nat × Nat × Nat × Nat × Nat × Nat) := []
def z_m78 : zMi := (RX7, yX7_swapGain, cX7_swapGain, 7, some .int, [])
def z_c78 : List zI := [(2, 0, 0, 0), (1, 1, 0, 0), (54, 26, 1, 1), (4, 3, 0, 0), (2, 0, 0, 0), (1, 2, 0, 0), (54, 26, 1, 1), (4, 4, 0, 0), (1, 3, 0, 0), (0, 0, 0, -1), (32, 17, 0, 0), (1, 4, 0, 0), (0, 0, 0, -1), (32, 17, 0, 0), (1, 3, 0, 0), (1, 4, 0, 0), (32, 19, 1, 0), (0, 0, 0, 0), (50, 0, 0, 0), (2, 0, 0, 0), (1, 3, 0, 0), (1, 1, 0, 0), (1, 2, 0, 0), (55, 79, 4, 0), (4, 5, 0, 0), (2, 0, 0, 0), (1, 4, 0, 0), (1, 2, 0, 0), (1, 1, 0, 0), (55, 79, 4, 0), (4, 6, 0, 0), (1, 5, 0, 0), (31, 35, 2, 0), (1, 6, 0, 0), (31, 37, 3, 0), (0, 0, 0, 0), (30, 40, 0, 0), (1, 5, 0, 0), (1, 6, 0, 0), (8, 0, 0, 0), (50, 0, 0, 0)]
def z_i78 : List zJ := [(0, .aload_n 0, 1, []), (1, .iload_n 1, 1, []), (2, .invokevirtual 22, 3, [447, 448, 449, 104, 450]), (5, .istore_n 3, 1, []), (6, .aload_n 0, 1, []), (7, .iload_n 2, 1, []), (8, .invokevirtual 22, 3, [447, 448, 449, 104, 450]), (11, .istore 4, 2, []), (13, .iload_n 3, 1, []), (14, .iconst (-1), 1, []), (15, .if_icmp .eq 15, 3, []), (18, .iload 4, 2, []), (20, .iconst (-1), 1, []), (21, .if_icmp .eq 9, 3, []), (24, .iload_n 3, 1, []), (25, .iload 4, 2, []), (27, .if_icmp .ne 5, 3, []), (30, .iconst 0, 1, []), (31, .ireturn, 1, []), (32, .aload_n 0, 1, []), (33, .iload_n 3, 1, []), (34, .iload_n 1, 1, []), (35, .iload_n 2, 1, []), (36, .invokestatic 72, 3, [498, 499, 127, 500]), (39, .istore 5, 2, []), (41, .aload_n 0, 1, []), (42, .iload 4, 2, []), (44, .iload_n 2, 1, []), (45, .iload_n 1, 1, []), (46, .invokestatic 72, 3, [498, 499, 127, 500]), (49, .istore 6, 2, []), (51, .iload 5, 2, []), (53, .ifCond .lt 8, 3, []), (56, .iload 6, 2, []), (58, .ifCond .ge 7, 3, []), (61, .iconst 0, 1, []), (62, .goto 8, 3, []), (65, .iload 5, 2, []), (67, .iload 6, 2, []), (69, .iadd, 1, []), (70, .ireturn, 1, [])]
def z_h78 : List (Nat × Nat × Nat × Nat × Nat × Nat × Nat) := []
def z_m79 : zMi := (RX7, yX7_moveGain, cX7_moveGain, 6, some .int, [])
def z_c79 : List zI := [(2, 0, 0, 0), (37, 1, 1, 0), (1, 1, 0, 0), (1, 2, 0, 0), (54, 14, 2, 0), (31, 8, 0, 0), (0, 0, 0, 1), (30, 9, 0, 0), (0, 0, 0, 0), (4, 4, 0, 0), (2, 0, 0, 0), (37, 1, 1, 0), (1, 1, 0, 0), (1, 3, 0, 0), (54, 14, 2, 0), (31, 18, 0, 0), (0, 0, 0, 1), (30, 19, 0, 0), (0, 0, 0, 0), (4, 5, 0, 0), (1, 5, 0, 0), (1, 4, 0, 0), (9, 0, 0, 0), (50, 0, 0, 0)]
def z_i79 : List zJ := [(0, .aload_n 0, 1, []), (1, .getfield 31, 3, [274]), (4, .iload_n 1, 1, []), (5, .iload_n 2, 1, []), (6, .invokevirtual 76, 3, [501, 502, 503, 105, 504]), (9, .ifCond .eq 7, 3, []), (12, .iconst 1, 1, []), (13, .goto 4, 3, []), (16, .iconst 0, 1, []), (17, .istore 4, 2, []), (19, .aload_n 0, 1, []), (20, .getfield 31, 3, [274]), (23, .iload_n 1, 1, []), (24, .iload_n 3, 1, []), (25, .invokevirtual 76, 3, [501, 502, 503, 105, 504]), (28, .ifCond .eq 7, 3, []), (31, .iconst 1, 1, []), (32, .goto 4, 3, []), (35, .iconst 0, 1, []), (36, .istore 5, 2, []), (38, .iload 5, 2, []), (40, .iload 4, 2, []), (42, .isub, 1, []), (43, .ireturn, 1, [])]
def z_h79 : List (Nat × Nat × Nat × Nat × Nat × Nat × Nat) := []
def z_m80 : zMi := (RX7, yX7_fewestChanges, cX7_fewestChanges, 3, some .int, [])
def z_c80 : List zI := [(2, 0, 0, 0), (55, 71, 1, 0), (31, 5, 1, 0), (0, 0, 0, 0), (30, 6, 0, 0), (0, 0, 0, 1), (4, 1, 0, 0), (0, 0, 0, 0), (4, 2, 0, 0), (1, 2, 0, 0), (2, 0, 0, 0), (37, 1, 1, 0), (37, 0, 4, 0), (32, 23, 3, 0), (2, 0, 0, 0), (0, 0, 0, 1), (1, 2, 0, 0), (13, 0, 0, 0), (54, 28, 1, 1), (31, 21, 0, 0), (7, 1, 0, 1), (7, 2, 0, 1), (30, 9, 0, 0), (1, 1, 0, 0), (0, 0, 0, 2), (32, 28, 3, 0), (0, 0, 0, 0), (30, 29, 0, 0), (1, 1, 0, 0), (50, 0, 0, 0)]
def z_i80 : List zJ := [(0, .aload_n 0, 1, []), (1, .invokestatic 80, 3, [516, 459, 127, 460]), (4, .ifCond .ne 7, 3, []), (7, .iconst 0, 1, []), (8, .goto 4, 3, []), (11, .iconst 1, 1, []), (12, .istore_n 1, 1, []), (13, .iconst 0, 1, []), (14, .istore_n 2, 1, []), (15, .iload_n 2, 1, []), (16, .aload_n 0, 1, []), (17, .getfield 31, 3, [274]), (20, .getfield 41, 3, [210]), (23, .if_icmp .ge 22, 3, []), (26, .aload_n 0, 1, []), (27, .iconst 1, 1, []), (28, .iload_n 2, 1, []), (29, .ishl, 1, []), (30, .invokevirtual 25, 3, [466, 467, 468, 104, 469]), (33, .ifCond .eq 6, 3, []), (36, .iinc 1 1, 3, []), (39, .iinc 2 1, 3, []), (42, .goto (-27), 3, []), (45, .iload_n 1, 1, []), (46, .iconst 2, 1, []), (47, .if_icmp .ge 7, 3, []), (50, .iconst 0, 1, []), (51, .goto 4, 3, []), (54, .iload_n 1, 1, []), (55, .ireturn, 1, [])]
def z_h80 : List (Nat × Nat × Nat × Nat × Nat × Nat × Nat) := []
def z_m81 : zMi := (RX7, yX7_cornerOf, cX7_cornerOf, 4, some .int, [])
def z_c81 : List zI := [(2, 0, 0, 0), (55, 69, 1, 0), (31, 12, 1, 0), (2, 0, 0, 0), (0, 0, 0, 0), (1, 1, 0, 0), (55, 82, 3, 0), (31, 10, 0, 0), (0, 0, 0, 12), (30, 11, 0, 0), (0, 0, 0, 0), (50, 0, 0, 0), (0, 0, 0, 0), (4, 2, 0, 0), (0, 0, 0, 0), (4, 3, 0, 0), (1, 3, 0, 0), (0, 0, 0, 24), (32, 43, 3, 0), (2, 0, 0, 0), (1, 3, 0, 0), (1, 1, 0, 0), (55, 82, 3, 0), (31, 41, 0, 0), (2, 0, 0, 0), (1, 3, 0, 0), (0, 0, 0, 1), (9, 0, 0, 0), (54, 26, 1, 1), (2, 0, 0, 0), (1, 3, 0, 0), (54, 26, 1, 1), (32, 41, 0, 0), (1, 2, 0, 0), (2, 0, 0, 0), (1, 3, 0, 0), (55, 83, 2, 0), (0, 0, 0, 2), (11, 0, 0, 0), (8, 0, 0, 0), (4, 2, 0, 0), (7, 3, 0, 1), (30, 16, 0, 0), (1, 2, 0, 0), (50, 0, 0, 0)]
def z_i81 : List zJ := [(0, .aload_n 0, 1, []), (1, .invokestatic 84, 3, [1310, 445, 127, 446]), (4, .ifCond .ne 19, 3, []), (7, .aload_n 0, 1, []), (8, .iconst 0, 1, []), (9, .iload_n 1, 1, []), (10, .invokestatic 87, 3, [1311, 1312, 127, 1313]), (13, .ifCond .eq 8, 3, []), (16, .bipush 12, 2, []), (18, .goto 4, 3, []), (21, .iconst 0, 1, []), (22, .ireturn, 1, []), (23, .iconst 0, 1, []), (24, .istore_n 2, 1, []), (25, .iconst 0, 1, []), (26, .istore_n 3, 1, []), (27, .iload_n 3, 1, []), (28, .bipush 24, 2, []), (30, .if_icmp .ge 43, 3, []), (33, .aload_n 0, 1, []), (34, .iload_n 3, 1, []), (35, .iload_n 1, 1, []), (36, .invokestatic 87, 3, [1311, 1312, 127, 1313]), (39, .ifCond .eq 28, 3, []), (42, .aload_n 0, 1, []), (43, .iload_n 3, 1, []), (44, .iconst 1, 1, []), (45, .isub, 1, []), (46, .invokevirtual 22, 3, [447, 448, 449, 104, 450]), (49, .aload_n 0, 1, []), (50, .iload_n 3, 1, []), (51, .invokevirtual 22, 3, [447, 448, 449, 104, 450]), (54, .if_icmp .eq 13, 3, []), (57, .iload_n 2, 1, []), (58, .aload_n 0, 1, []), (59, .iload_n 3, 1, []), (60, .invokestatic 91, 3, [1314, 1315, 127, 1316]), (63, .iconst 2, 1, []), (64, .idiv, 1, []), (65, .iadd, 1, []), (66, .istore_n 2, 1, []), (67, .iinc 3 1, 3, []), (70, .goto (-43), 3, []), (73, .iload_n 2, 1, []), (74, .ireturn, 1, [])]
def z_h81 : List (Nat × Nat × Nat × Nat × Nat × Nat × Nat) := []
def z_m82 : zMi := (RX7, yX7_isOthers, cX7_isOthers, 4, some .boolean, [])
def z_c82 : List zI := [(2, 0, 0, 0), (1, 1, 0, 0), (54, 26, 1, 1), (4, 3, 0, 0), (1, 3, 0, 0), (0, 0, 0, -1), (32, 12, 0, 0), (1, 3, 0, 0), (1, 2, 0, 0), (32, 12, 0, 0), (0, 0, 0, 1), (30, 13, 0, 0), (0, 0, 0, 0), (50, 0, 0, 0)]
def z_i82 : List zJ := [(0, .aload_n 0, 1, []), (1, .iload_n 1, 1, []), (2, .invokevirtual 22, 3, [447, 448, 449, 104, 450]), (5, .istore_n 3, 1, []), (6, .iload_n 3, 1, []), (7, .iconst (-1), 1, []), (8, .if_icmp .eq 12, 3, []), (11, .iload_n 3, 1, []), (12, .iload_n 2, 1, []), (13, .if_icmp .eq 7, 3, []), (16, .iconst 1, 1, []), (17, .goto 4, 3, []), (20, .iconst 0, 1, []), (21, .ireturn, 1, [])]
def z_h82 : List (Nat × Nat × Nat × Nat × Nat × Nat × Nat) := []
def z_m83 : zMi := (RX7, yX7_rowFrom, cX7_rowFrom, 3, some .int, [])
def z_c83 : List zI := [(0, 0, 0, 1), (4, 2, 0, 0), (1, 2, 0, 0), (0, 0, 0, 24), (32, 16, 3, 0), (2, 0, 0, 0), (1, 1, 0, 0), (1, 2, 0, 0), (8, 0, 0, 0), (54, 26, 1, 1), (2, 0, 0, 0), (1, 1, 0, 0), (54, 26, 1, 1), (32, 16, 1, 0), (7, 2, 0, 1), (30, 2, 0, 0), (1, 2, 0, 0), (50, 0, 0, 0)]
def z_i83 : List zJ := [(0, .iconst 1, 1, []), (1, .istore_n 2, 1, []), (2, .iload_n 2, 1, []), (3, .bipush 24, 2, []), (5, .if_icmp .ge 24, 3, []), (8, .aload_n 0, 1, []), (9, .iload_n 1, 1, []), (10, .iload_n 2, 1, []), (11, .iadd, 1, []), (12, .invokevirtual 22, 3, [447, 448, 449, 104, 450]), (15, .aload_n 0, 1, []), (16, .iload_n 1, 1, []), (17, .invokevirtual 22, 3, [447, 448, 449, 104, 450]), (20, .if_icmp .ne 9, 3, []), (23, .iinc 2 1, 3, []), (26, .goto (-24), 3, []), (29, .iload_n 2, 1, []), (30, .ireturn, 1, [])]
def z_h83 : List (Nat × Nat × Nat × Nat × Nat × Nat × Nat) := []
def z_m84 : zMi := (RX8, yX8_init, cX8_init, 1, none, [])
def z_c84 : List zI := [(2, 0, 0, 0), (57, 0, 0, 0), (2, 0, 0, 0), (0, 0, 0, 400), (47, 0, 0, 0), (38, 6, 0, 2), (2, 0, 0, 0), (0, 0, 0, 0), (38, 6, 1, 0), (2, 0, 0, 0), (0, 0, 0, 0), (38, 6, 2, 0), (2, 0, 0, 0), (0, 0, 0, -1), (38, 6, 3, 0), (53, 0, 0, 0)]
def z_i84 : List zJ := [(0, .aload_n 0, 1, []), (1, .invokespecial 3, 3, [143, 136, 137]), (4, .aload_n 0, 1, []), (5, .sipush 400, 3, []), (8, .newarray .int, 2, [158]), (10, .putfield 11, 3, [144]), (13, .aload_n 0, 1, []), (14, .iconst 0, 1, []), (15, .putfield 15, 3, [145]), (18, .aload_n 0, 1, []), (19, .iconst 0, 1, []), (20, .putfield 19, 3, [147]), (23, .aload_n 0, 1, []), (24, .iconst (-1), 1, []), (25, .putfield 22, 3, [148]), (28, .return_, 1, [])]
def z_h84 : List (Nat × Nat × Nat × Nat × Nat × Nat × Nat) := []
def z_m85 : zMi := (RX8, yX8_append, cX8_append, 3, none, [])
def z_c85 : List zI := [(0, 0, 0, 24), (4, 2, 0, 0), (1, 2, 0, 0), (31, 26, 2, 0), (2, 0, 0, 0), (37, 6, 1, 0), (0, 0, 0, 400), (32, 26, 3, 0), (2, 0, 0, 0), (37, 6, 0, 0), (2, 0, 0, 0), (37, 6, 1, 0), (1, 1, 0, 0), (1, 2, 0, 0), (15, 0, 0, 0), (0, 0, 0, 255), (16, 0, 0, 0), (40, 0, 0, 0), (2, 0, 0, 0), (27, 0, 0, 0), (37, 6, 1, 0), (0, 0, 0, 1), (8, 0, 0, 0), (38, 6, 1, 0), (7, 2, 0, -8), (30, 2, 0, 0), (53, 0, 0, 0)]
def z_i85 : List zJ := [(0, .bipush 24, 2, []), (2, .istore_n 2, 1, []), (3, .iload_n 2, 1, []), (4, .ifCond .lt 45, 3, []), (7, .aload_n 0, 1, []), (8, .getfield 15, 3, [145]), (11, .sipush 400, 3, []), (14, .if_icmp .ge 35, 3, []), (17, .aload_n 0, 1, []), (18, .getfield 11, 3, [144]), (21, .aload_n 0, 1, []), (22, .getfield 15, 3, [145]), (25, .iload_n 1, 1, []), (26, .iload_n 2, 1, []), (27, .iushr, 1, []), (28, .sipush 255, 3, []), (31, .iand, 1, []), (32, .iastore, 1, []), (33, .aload_n 0, 1, []), (34, .dup, 1, []), (35, .getfield 15, 3, [145]), (38, .iconst 1, 1, []), (39, .iadd, 1, []), (40, .putfield 15, 3, [145]), (43, .iinc 2 (-8), 3, []), (46, .goto (-43), 3, []), (49, .return_, 1, [])]
def z_h85 : List (Nat × Nat × Nat × Nat × Nat × Nat × Nat) := []
def z_m86 : zMi := (RX8, yX8_byteAt, cX8_byteAt, 2, some .int, [])
def z_c86 : List zI := [(1, 1, 0, 0), (31, 14, 2, 0), (1, 1, 0, 0), (2, 0, 0, 0), (37, 6, 1, 0), (32, 14, 3, 0), (1, 1, 0, 0), (0, 0, 0, 400), (32, 14, 3, 0), (2, 0, 0, 0), (37, 6, 0, 0), (1, 1, 0, 0), (39, 0, 0, 0), (30, 15, 0, 0), (0, 0, 0, -1), (50, 0, 0, 0)]
def z_i86 : List zJ := [(0, .iload_n 1, 1, []), (1, .ifCond .lt 27, 3, []), (4, .iload_n 1, 1, []), (5, .aload_n 0, 1, []), (6, .getfield 15, 3, [145]), (9, .if_icmp .ge 19, 3, []), (12, .iload_n 1, 1, []), (13, .sipush 400, 3, []), (16, .if_icmp .ge 12, 3, []), (19, .aload_n 0, 1, []), (20, .getfield 11, 3, [144]), (23, .iload_n 1, 1, []), (24, .iaload, 1, []), (25, .goto 4, 3, []), (28, .iconst (-1), 1, []), (29, .ireturn, 1, [])]
def z_h86 : List (Nat × Nat × Nat × Nat × Nat × Nat × Nat) := []
def z_m87 : zMi := (RX8, yX8_beginText, cX8_beginText, 1, none, [])
def z_c87 : List zI := [(2, 0, 0, 0), (0, 0, 0, 0), (38, 6, 2, 0), (2, 0, 0, 0), (0, 0, 0, -1), (38, 6, 3, 0), (2, 0, 0, 0), (54, 97, 0, 6), (53, 0, 0, 0)]
def z_i87 : List zJ := [(0, .aload_n 0, 1, []), (1, .iconst 0, 1, []), (2, .putfield 19, 3, [147]), (5, .aload_n 0, 1, []), (6, .iconst (-1), 1, []), (7, .putfield 22, 3, [148]), (10, .aload_n 0, 1, []), (11, .invokevirtual 25, 3, [635, 637, 0, 102, 638]), (14, .return_, 1, [])]
def z_h87 : List (Nat × Nat × Nat × Nat × Nat × Nat × Nat) := []
def z_m88 : zMi := (RX8, yX8_firstWrong, cX8_firstWrong, 1, some .int, [])
def z_c88 : List zI := [(2, 0, 0, 0), (37, 6, 3, 0), (50, 0, 0, 0)]
def z_i88 : List zJ := [(0, .aload_n 0, 1, []), (1, .getfield 22, 3, [148]), (4, .ireturn, 1, [])]
def z_h88 : List (Nat × Nat × Nat × Nat × Nat × Nat × Nat) := []
def z_m89 : zMi := (RX8, yX8_goesOn, cX8_goesOn, 1, some .boolean, [])
def z_c89 : List zI := [(2, 0, 0, 0), (37, 6, 3, 0), (0, 0, 0, -1), (32, 11, 1, 0), (2, 0, 0, 0), (37, 6, 2, 0), (2, 0, 0, 0), (37, 6, 1, 0), (32, 11, 3, 0), (0, 0, 0, 1), (30, 12, 0, 0), (0, 0, 0, 0), (50, 0, 0, 0)]
def z_i89 : List zJ := [(0, .aload_n 0, 1, []), (1, .getfield 22, 3, [148]), (4, .iconst (-1), 1, []), (5, .if_icmp .ne 18, 3, []), (8, .aload_n 0, 1, []), (9, .getfield 19, 3, [147]), (12, .aload_n 0, 1, []), (13, .getfield 15, 3, [145]), (16, .if_icmp .ge 7, 3, []), (19, .iconst 1, 1, []), (20, .goto 4, 3, []), (23, .iconst 0, 1, []), (24, .ireturn, 1, [])]
def z_h89 : List (Nat × Nat × Nat × Nat × Nat × Nat × Nat) := []
def z_m90 : zMi := (RX8, yX8_refuse, cX8_refuse, 1, none, [])
def z_c90 : List zI := [(2, 0, 0, 0), (37, 6, 3, 0), (0, 0, 0, -1), (32, 8, 1, 0), (2, 0, 0, 0), (2, 0, 0, 0), (37, 6, 2, 0), (38, 6, 3, 0), (53, 0, 0, 0)]
def z_i90 : List zJ := [(0, .aload_n 0, 1, []), (1, .getfield 22, 3, [148]), (4, .iconst (-1), 1, []), (5, .if_icmp .ne 11, 3, []), (8, .aload_n 0, 1, []), (9, .aload_n 0, 1, []), (10, .getfield 19, 3, [147]), (13, .putfield 22, 3, [148]), (16, .return_, 1, [])]
def z_h90 : List (Nat × Nat × Nat × Nat × Nat × Nat × Nat) := []
def z_m91 : zMi := (RX8, yX8_takeWord, cX8_takeWord, 4, some .boolean, [])
def z_c91 : List zI := [(2, 0, 0, 0), (37, 6, 2, 0), (2, 1, 0, 0), (59, 0, 0, 0), (8, 0, 0, 0), (4, 2, 0, 0), (2, 0, 0, 0), (37, 6, 3, 0), (0, 0, 0, -1), (32, 19, 1, 0), (1, 2, 0, 0), (2, 0, 0, 0), (37, 6, 1, 0), (32, 19, 4, 0), (2, 0, 0, 0), (1, 2, 0, 0), (54, 86, 1, 6), (55, 98, 1, 0), (31, 21, 0, 0), (0, 0, 0, 0), (50, 0, 0, 0), (0, 0, 0, 0), (4, 3, 0, 0), (1, 3, 0, 0), (2, 1, 0, 0), (59, 0, 0, 0), (32, 41, 3, 0), (2, 0, 0, 0), (2, 0, 0, 0), (37, 6, 2, 0), (1, 3, 0, 0), (8, 0, 0, 0), (54, 86, 1, 6), (2, 1, 0, 0), (1, 3, 0, 0), (60, 0, 0, 0), (32, 39, 0, 0), (0, 0, 0, 0), (50, 0, 0, 0), (7, 3, 0, 1), (30, 23, 0, 0), (2, 0, 0, 0), (1, 2, 0, 0), (38, 6, 2, 0), (2, 0, 0, 0), (54, 97, 0, 6), (0, 0, 0, 1), (50, 0, 0, 0)]
def z_i91 : List zJ := [(0, .aload_n 0, 1, []), (1, .getfield 19, 3, [147]), (4, .aload_n 1, 1, []), (5, .invokevirtual 28, 3, [655]), (8, .iadd, 1, []), (9, .istore_n 2, 1, []), (10, .aload_n 0, 1, []), (11, .getfield 22, 3, [148]), (14, .iconst (-1), 1, []), (15, .if_icmp .ne 22, 3, []), (18, .iload_n 2, 1, []), (19, .aload_n 0, 1, []), (20, .getfield 15, 3, [145]), (23, .if_icmp .gt 14, 3, []), (26, .aload_n 0, 1, []), (27, .iload_n 2, 1, []), (28, .invokevirtual 33, 3, [665, 666, 667, 102, 668]), (31, .invokestatic 37, 3, [669, 670, 102, 671]), (34, .ifCond .eq 5, 3, []), (37, .iconst 0, 1, []), (38, .ireturn, 1, []), (39, .iconst 0, 1, []), (40, .istore_n 3, 1, []), (41, .iload_n 3, 1, []), (42, .aload_n 1, 1, []), (43, .invokevirtual 28, 3, [655]), (46, .if_icmp .ge 29, 3, []), (49, .aload_n 0, 1, []), (50, .aload_n 0, 1, []), (51, .getfield 19, 3, [147]), (54, .iload_n 3, 1, []), (55, .iadd, 1, []), (56, .invokevirtual 33, 3, [665, 666, 667, 102, 668]), (59, .aload_n 1, 1, []), (60, .iload_n 3, 1, []), (61, .invokevirtual 41, 3, [672]), (64, .if_icmp .eq 5, 3, []), (67, .iconst 0, 1, []), (68, .ireturn, 1, []), (69, .iinc 3 1, 3, []), (72, .goto (-31), 3, []), (75, .aload_n 0, 1, []), (76, .iload_n 2, 1, []), (77, .putfield 19, 3, [147]), (80, .aload_n 0, 1, []), (81, .invokevirtual 25, 3, [635, 637, 0, 102, 638]), (84, .iconst 1, 1, []), (85, .ireturn, 1, [])]
def z_h91 : List (Nat × Nat × Nat × Nat × Nat × Nat × Nat) := []
def z_m92 : zMi := (RX8, yX8_needWord, cX8_needWord, 2, none, [])
def z_c92 : List zI := [(2, 0, 0, 0), (2, 1, 0, 0), (54, 91, 1, 6), (31, 6, 1, 0), (2, 0, 0, 0), (54, 90, 0, 6), (53, 0, 0, 0)]
def z_i92 : List zJ := [(0, .aload_n 0, 1, []), (1, .aload_n 1, 1, []), (2, .invokevirtual 45, 3, [718, 652, 653, 102, 654]), (5, .ifCond .ne 7, 3, []), (8, .aload_n 0, 1, []), (9, .invokevirtual 49, 3, [719, 720, 721, 102, 722]), (12, .return_, 1, [])]
def z_h92 : List (Nat × Nat × Nat × Nat × Nat × Nat × Nat) := []
def z_m93 : zMi := (RX8, yX8_takeSign, cX8_takeSign, 2, some .boolean, [])
def z_c93 : List zI := [(2, 0, 0, 0), (37, 6, 3, 0), (0, 0, 0, -1), (32, 10, 1, 0), (2, 0, 0, 0), (2, 0, 0, 0), (37, 6, 2, 0), (54, 86, 1, 6), (1, 1, 0, 0), (32, 12, 0, 0), (0, 0, 0, 0), (50, 0, 0, 0), (2, 0, 0, 0), (27, 0, 0, 0), (37, 6, 2, 0), (0, 0, 0, 1), (8, 0, 0, 0), (38, 6, 2, 0), (2, 0, 0, 0), (54, 97, 0, 6), (0, 0, 0, 1), (50, 0, 0, 0)]
def z_i93 : List zJ := [(0, .aload_n 0, 1, []), (1, .getfield 22, 3, [148]), (4, .iconst (-1), 1, []), (5, .if_icmp .ne 15, 3, []), (8, .aload_n 0, 1, []), (9, .aload_n 0, 1, []), (10, .getfield 19, 3, [147]), (13, .invokevirtual 33, 3, [665, 666, 667, 102, 668]), (16, .iload_n 1, 1, []), (17, .if_icmp .eq 5, 3, []), (20, .iconst 0, 1, []), (21, .ireturn, 1, []), (22, .aload_n 0, 1, []), (23, .dup, 1, []), (24, .getfield 19, 3, [147]), (27, .iconst 1, 1, []), (28, .iadd, 1, []), (29, .putfield 19, 3, [147]), (32, .aload_n 0, 1, []), (33, .invokevirtual 25, 3, [635, 637, 0, 102, 638]), (36, .iconst 1, 1, []), (37, .ireturn, 1, [])]
def z_h93 : List (Nat × Nat × Nat × Nat × Nat × Nat × Nat) := []
def z_m94 : zMi := (RX8, yX8_needSign, cX8_needSign, 2, none, [])
def z_c94 : List zI := [(2, 0, 0, 0), (1, 1, 0, 0), (54, 93, 1, 6), (31, 6, 1, 0), (2, 0, 0, 0), (54, 90, 0, 6), (53, 0, 0, 0)]
def z_i94 : List zJ := [(0, .aload_n 0, 1, []), (1, .iload_n 1, 1, []), (2, .invokevirtual 52, 3, [788, 789, 790, 102, 791]), (5, .ifCond .ne 7, 3, []), (8, .aload_n 0, 1, []), (9, .invokevirtual 49, 3, [719, 720, 721, 102, 722]), (12, .return_, 1, [])]
def z_h94 : List (Nat × Nat × Nat × Nat × Nat × Nat × Nat) := []
def z_m95 : zMi := (RX8, yX8_seesNumber, cX8_seesNumber, 1, some .boolean, [])
def z_c95 : List zI := [(2, 0, 0, 0), (37, 6, 3, 0), (0, 0, 0, -1), (32, 12, 1, 0), (2, 0, 0, 0), (2, 0, 0, 0), (37, 6, 2, 0), (54, 86, 1, 6), (55, 99, 1, 0), (31, 12, 0, 0), (0, 0, 0, 1), (30, 13, 0, 0), (0, 0, 0, 0), (50, 0, 0, 0)]
def z_i95 : List zJ := [(0, .aload_n 0, 1, []), (1, .getfield 22, 3, [148]), (4, .iconst (-1), 1, []), (5, .if_icmp .ne 21, 3, []), (8, .aload_n 0, 1, []), (9, .aload_n 0, 1, []), (10, .getfield 19, 3, [147]), (13, .invokevirtual 33, 3, [665, 666, 667, 102, 668]), (16, .invokestatic 56, 3, [727, 728, 102, 729]), (19, .ifCond .eq 7, 3, []), (22, .iconst 1, 1, []), (23, .goto 4, 3, []), (26, .iconst 0, 1, []), (27, .ireturn, 1, [])]
def z_h95 : List (Nat × Nat × Nat × Nat × Nat × Nat × Nat) := []
def z_m96 : zMi := (RX8, yX8_takeNumber, cX8_takeNumber, 6, some .int, [])
def z_c96 : List zI := [(2, 0, 0, 0), (37, 6, 2, 0), (4, 3, 0, 0), (0, 0, 0, 0), (4, 4, 0, 0), (1, 3, 0, 0), (2, 0, 0, 0), (37, 6, 1, 0), (32, 32, 3, 0), (2, 0, 0, 0), (1, 3, 0, 0), (54, 86, 1, 6), (55, 99, 1, 0), (31, 32, 0, 0), (1, 3, 0, 0), (2, 0, 0, 0), (37, 6, 2, 0), (9, 0, 0, 0), (0, 0, 0, 3), (32, 30, 3, 0), (1, 4, 0, 0), (0, 0, 0, 10), (10, 0, 0, 0), (2, 0, 0, 0), (1, 3, 0, 0), (54, 86, 1, 6), (8, 0, 0, 0), (0, 0, 0, 48), (9, 0, 0, 0), (4, 4, 0, 0), (7, 3, 0, 1), (30, 5, 0, 0), (1, 3, 0, 0), (2, 0, 0, 0), (37, 6, 2, 0), (9, 0, 0, 0), (4, 5, 0, 0), (1, 5, 0, 0), (0, 0, 0, 1), (32, 49, 2, 0), (1, 5, 0, 0), (0, 0, 0, 3), (32, 49, 4, 0), (1, 4, 0, 0), (1, 1, 0, 0), (32, 49, 2, 0), (1, 4, 0, 0), (1, 2, 0, 0), (32, 53, 5, 0), (2, 0, 0, 0), (54, 90, 0, 6), (1, 1, 0, 0), (50, 0, 0, 0), (2, 0, 0, 0), (1, 3, 0, 0), (38, 6, 2, 0), (2, 0, 0, 0), (54, 97, 0, 6), (1, 4, 0, 0), (50, 0, 0, 0)]
def z_i96 : List zJ := [(0, .aload_n 0, 1, []), (1, .getfield 19, 3, [147]), (4, .istore_n 3, 1, []), (5, .iconst 0, 1, []), (6, .istore 4, 2, []), (8, .iload_n 3, 1, []), (9, .aload_n 0, 1, []), (10, .getfield 15, 3, [145]), (13, .if_icmp .ge 46, 3, []), (16, .aload_n 0, 1, []), (17, .iload_n 3, 1, []), (18, .invokevirtual 33, 3, [665, 666, 667, 102, 668]), (21, .invokestatic 56, 3, [727, 728, 102, 729]), (24, .ifCond .eq 35, 3, []), (27, .iload_n 3, 1, []), (28, .aload_n 0, 1, []), (29, .getfield 19, 3, [147]), (32, .isub, 1, []), (33, .iconst 3, 1, []), (34, .if_icmp .ge 19, 3, []), (37, .iload 4, 2, []), (39, .bipush 10, 2, []), (41, .imul, 1, []), (42, .aload_n 0, 1, []), (43, .iload_n 3, 1, []), (44, .invokevirtual 33, 3, [665, 666, 667, 102, 668]), (47, .iadd, 1, []), (48, .bipush 48, 2, []), (50, .isub, 1, []), (51, .istore 4, 2, []), (53, .iinc 3 1, 3, []), (56, .goto (-48), 3, []), (59, .iload_n 3, 1, []), (60, .aload_n 0, 1, []), (61, .getfield 19, 3, [147]), (64, .isub, 1, []), (65, .istore 5, 2, []), (67, .iload 5, 2, []), (69, .iconst 1, 1, []), (70, .if_icmp .lt 21, 3, []), (73, .iload 5, 2, []), (75, .iconst 3, 1, []), (76, .if_icmp .gt 15, 3, []), (79, .iload 4, 2, []), (81, .iload_n 1, 1, []), (82, .if_icmp .lt 9, 3, []), (85, .iload 4, 2, []), (87, .iload_n 2, 1, []), (88, .if_icmp .le 9, 3, []), (91, .aload_n 0, 1, []), (92, .invokevirtual 49, 3, [719, 720, 721, 102, 722]), (95, .iload_n 1, 1, []), (96, .ireturn, 1, []), (97, .aload_n 0, 1, []), (98, .iload_n 3, 1, []), (99, .putfield 19, 3, [147]), (102, .aload_n 0, 1, []), (103, .invokevirtual 25, 3, [635, 637, 0, 102, 638]), (106, .iload 4, 2, []), (108, .ireturn, 1, [])]
def z_h96 : List (Nat × Nat × Nat × Nat × Nat × Nat × Nat) := []
def z_m97 : zMi := (RX8, yX8_skipBlanks, cX8_skipBlanks, 1, none, [])
def z_c97 : List zI := [(2, 0, 0, 0), (37, 6, 2, 0), (2, 0, 0, 0), (37, 6, 1, 0), (32, 23, 3, 0), (2, 0, 0, 0), (37, 6, 2, 0), (0, 0, 0, 400), (32, 23, 3, 0), (2, 0, 0, 0), (37, 6, 0, 0), (2, 0, 0, 0), (37, 6, 2, 0), (39, 0, 0, 0), (0, 0, 0, 32), (32, 23, 1, 0), (2, 0, 0, 0), (27, 0, 0, 0), (37, 6, 2, 0), (0, 0, 0, 1), (8, 0, 0, 0), (38, 6, 2, 0), (30, 0, 0, 0), (53, 0, 0, 0)]
def z_i97 : List zJ := [(0, .aload_n 0, 1, []), (1, .getfield 19, 3, [147]), (4, .aload_n 0, 1, []), (5, .getfield 15, 3, [145]), (8, .if_icmp .ge 40, 3, []), (11, .aload_n 0, 1, []), (12, .getfield 19, 3, [147]), (15, .sipush 400, 3, []), (18, .if_icmp .ge 30, 3, []), (21, .aload_n 0, 1, []), (22, .getfield 11, 3, [144]), (25, .aload_n 0, 1, []), (26, .getfield 19, 3, [147]), (29, .iaload, 1, []), (30, .bipush 32, 2, []), (32, .if_icmp .ne 16, 3, []), (35, .aload_n 0, 1, []), (36, .dup, 1, []), (37, .getfield 19, 3, [147]), (40, .iconst 1, 1, []), (41, .iadd, 1, []), (42, .putfield 19, 3, [147]), (45, .goto (-45), 3, []), (48, .return_, 1, [])]
def z_h97 : List (Nat × Nat × Nat × Nat × Nat × Nat × Nat) := []
def z_m98 : zMi := (RX8, yX8_isLetter, cX8_isLetter, 1, some .boolean, [])
def z_c98 : List zI := [(1, 0, 0, 0), (0, 0, 0, 97), (32, 8, 2, 0), (1, 0, 0, 0), (0, 0, 0, 122), (32, 8, 4, 0), (0, 0, 0, 1), (30, 9, 0, 0), (0, 0, 0, 0), (50, 0, 0, 0)]
def z_i98 : List zJ := [(0, .iload_n 0, 1, []), (1, .bipush 97, 2, []), (3, .if_icmp .lt 13, 3, []), (6, .iload_n 0, 1, []), (7, .bipush 122, 2, []), (9, .if_icmp .gt 7, 3, []), (12, .iconst 1, 1, []), (13, .goto 4, 3, []), (16, .iconst 0, 1, []), (17, .ireturn, 1, [])]
def z_h98 : List (Nat × Nat × Nat × Nat × Nat × Nat × Nat) := []
def z_m99 : zMi := (RX8, yX8_isDigit, cX8_isDigit, 1, some .boolean, [])
def z_c99 : List zI := [(1, 0, 0, 0), (0, 0, 0, 48), (32, 8, 2, 0), (1, 0, 0, 0), (0, 0, 0, 57), (32, 8, 4, 0), (0, 0, 0, 1), (30, 9, 0, 0), (0, 0, 0, 0), (50, 0, 0, 0)]
def z_i99 : List zJ := [(0, .iload_n 0, 1, []), (1, .bipush 48, 2, []), (3, .if_icmp .lt 13, 3, []), (6, .iload_n 0, 1, []), (7, .bipush 57, 2, []), (9, .if_icmp .gt 7, 3, []), (12, .iconst 1, 1, []), (13, .goto 4, 3, []), (16, .iconst 0, 1, []), (17, .ireturn, 1, [])]
def z_h99 : List (Nat × Nat × Nat × Nat × Nat × Nat × Nat) := []
def z_m100 : zMi := (RX9, yX9_init, cX9_init, 1, none, [])
def z_c100 : List zI := [(2, 0, 0, 0), (57, 0, 0, 0), (2, 0, 0, 0), (0, 0, 0, 8), (47, 0, 0, 0), (38, 7, 0, 2), (2, 0, 0, 0), (0, 0, 0, 8), (47, 0, 0, 0), (38, 7, 1, 2), (2, 0, 0, 0), (0, 0, 0, 0), (38, 7, 2, 0), (2, 0, 0, 0), (0, 0, 0, 0), (38, 7, 3, 0), (53, 0, 0, 0)]
def z_i100 : List zJ := [(0, .aload_n 0, 1, []), (1, .invokespecial 3, 3, [228, 136, 137]), (4, .aload_n 0, 1, []), (5, .bipush 8, 2, []), (7, .newarray .int, 2, [158]), (9, .putfield 9, 3, [229]), (12, .aload_n 0, 1, []), (13, .bipush 8, 2, []), (15, .newarray .int, 2, [158]), (17, .putfield 15, 3, [232]), (20, .aload_n 0, 1, []), (21, .iconst 0, 1, []), (22, .putfield 18, 3, [235]), (25, .aload_n 0, 1, []), (26, .iconst 0, 1, []), (27, .putfield 22, 3, [237]), (30, .return_, 1, [])]
def z_h100 : List (Nat × Nat × Nat × Nat × Nat × Nat × Nat) := []
def z_m101 : zMi := (RX9, yX9_copyFrom, cX9_copyFrom, 2, none, [])
def z_c101 : List zI := [(2, 1, 0, 0), (37, 7, 0, 0), (0, 0, 0, 0), (2, 0, 0, 0), (37, 7, 0, 0), (0, 0, 0, 0), (0, 0, 0, 8), (61, 0, 0, 0), (2, 1, 0, 0), (37, 7, 1, 0), (0, 0, 0, 0), (2, 0, 0, 0), (37, 7, 1, 0), (0, 0, 0, 0), (0, 0, 0, 8), (61, 0, 0, 0), (2, 0, 0, 0), (2, 1, 0, 0), (37, 7, 2, 0), (38, 7, 2, 0), (2, 0, 0, 0), (2, 1, 0, 0), (37, 7, 3, 0), (38, 7, 3, 0), (53, 0, 0, 0)]
def z_i101 : List zJ := [(0, .aload_n 1, 1, []), (1, .getfield 9, 3, [229]), (4, .iconst 0, 1, []), (5, .aload_n 0, 1, []), (6, .getfield 9, 3, [229]), (9, .iconst 0, 1, []), (10, .bipush 8, 2, []), (12, .invokestatic 25, 3, [431]), (15, .aload_n 1, 1, []), (16, .getfield 15, 3, [232]), (19, .iconst 0, 1, []), (20, .aload_n 0, 1, []), (21, .getfield 15, 3, [232]), (24, .iconst 0, 1, []), (25, .bipush 8, 2, []), (27, .invokestatic 25, 3, [431]), (30, .aload_n 0, 1, []), (31, .aload_n 1, 1, []), (32, .getfield 18, 3, [235]), (35, .putfield 18, 3, [235]), (38, .aload_n 0, 1, []), (39, .aload_n 1, 1, []), (40, .getfield 22, 3, [237]), (43, .putfield 22, 3, [237]), (46, .return_, 1, [])]
def z_h101 : List (Nat × Nat × Nat × Nat × Nat × Nat × Nat) := []
def z_m102 : zMi := (RX9, yX9_has, cX9_has, 2, some .boolean, [])
def z_c102 : List zI := [(1, 1, 0, 0), (31, 11, 2, 0), (1, 1, 0, 0), (2, 0, 0, 0), (37, 7, 3, 0), (32, 11, 3, 0), (1, 1, 0, 0), (0, 0, 0, 8), (32, 11, 3, 0), (0, 0, 0, 1), (30, 12, 0, 0), (0, 0, 0, 0), (50, 0, 0, 0)]
def z_i102 : List zJ := [(0, .iload_n 1, 1, []), (1, .ifCond .lt 21, 3, []), (4, .iload_n 1, 1, []), (5, .aload_n 0, 1, []), (6, .getfield 22, 3, [237]), (9, .if_icmp .ge 13, 3, []), (12, .iload_n 1, 1, []), (13, .bipush 8, 2, []), (15, .if_icmp .ge 7, 3, []), (18, .iconst 1, 1, []), (19, .goto 4, 3, []), (22, .iconst 0, 1, []), (23, .ireturn, 1, [])]
def z_h102 : List (Nat × Nat × Nat × Nat × Nat × Nat × Nat) := []
def z_m103 : zMi := (RX9, yX9_hasRoom, cX9_hasRoom, 1, some .boolean, [])
def z_c103 : List zI := [(2, 0, 0, 0), (37, 7, 3, 0), (0, 0, 0, 8), (32, 6, 3, 0), (0, 0, 0, 1), (30, 7, 0, 0), (0, 0, 0, 0), (50, 0, 0, 0)]
def z_i103 : List zJ := [(0, .aload_n 0, 1, []), (1, .getfield 22, 3, [237]), (4, .bipush 8, 2, []), (6, .if_icmp .ge 7, 3, []), (9, .iconst 1, 1, []), (10, .goto 4, 3, []), (13, .iconst 0, 1, []), (14, .ireturn, 1, [])]
def z_h103 : List (Nat × Nat × Nat × Nat × Nat × Nat × Nat) := []
def z_m104 : zMi := (RX9, yX9_bring, cX9_bring, 4, none, [])
def z_c104 : List zI := [(2, 0, 0, 0), (54, 103, 0, 7), (31, 4, 1, 0), (53, 0, 0, 0), (2, 0, 0, 0), (37, 7, 0, 0), (2, 0, 0, 0), (37, 7, 3, 0), (1, 1, 0, 0), (40, 0, 0, 0), (2, 0, 0, 0), (37, 7, 1, 0), (2, 0, 0, 0), (37, 7, 3, 0), (1, 2, 0, 0), (40, 0, 0, 0), (1, 3, 0, 0), (31, 22, 0, 0), (2, 0, 0, 0), (2, 0, 0, 0), (37, 7, 3, 0), (54, 106, 1, 7), (2, 0, 0, 0), (27, 0, 0, 0), (37, 7, 3, 0), (0, 0, 0, 1), (8, 0, 0, 0), (38, 7, 3, 0), (53, 0, 0, 0)]
def z_i104 : List zJ := [(0, .aload_n 0, 1, []), (1, .invokevirtual 31, 3, [769, 753, 754, 106, 755]), (4, .ifCond .ne 4, 3, []), (7, .return_, 1, []), (8, .aload_n 0, 1, []), (9, .getfield 9, 3, [229]), (12, .aload_n 0, 1, []), (13, .getfield 22, 3, [237]), (16, .iload_n 1, 1, []), (17, .iastore, 1, []), (18, .aload_n 0, 1, []), (19, .getfield 15, 3, [232]), (22, .aload_n 0, 1, []), (23, .getfield 22, 3, [237]), (26, .iload_n 2, 1, []), (27, .iastore, 1, []), (28, .iload_n 3, 1, []), (29, .ifCond .eq 11, 3, []), (32, .aload_n 0, 1, []), (33, .aload_n 0, 1, []), (34, .getfield 22, 3, [237]), (37, .invokevirtual 35, 3, [770, 771, 772, 106, 773]), (40, .aload_n 0, 1, []), (41, .dup, 1, []), (42, .getfield 22, 3, [237]), (45, .iconst 1, 1, []), (46, .iadd, 1, []), (47, .putfield 22, 3, [237]), (50, .return_, 1, [])]
def z_h104 : List (Nat × Nat × Nat × Nat × Nat × Nat × Nat) := []
def z_m105 : zMi := (RX9, yX9_isLeft, cX9_isLeft, 2, some .boolean, [])
def z_c105 : List zI := [(2, 0, 0, 0), (37, 7, 2, 0), (1, 1, 0, 0), (14, 0, 0, 0), (0, 0, 0, 1), (16, 0, 0, 0), (0, 0, 0, 1), (32, 10, 1, 0), (0, 0, 0, 1), (30, 11, 0, 0), (0, 0, 0, 0), (50, 0, 0, 0)]
def z_i105 : List zJ := [(0, .aload_n 0, 1, []), (1, .getfield 18, 3, [235]), (4, .iload_n 1, 1, []), (5, .ishr, 1, []), (6, .iconst 1, 1, []), (7, .iand, 1, []), (8, .iconst 1, 1, []), (9, .if_icmp .ne 7, 3, []), (12, .iconst 1, 1, []), (13, .goto 4, 3, []), (16, .iconst 0, 1, []), (17, .ireturn, 1, [])]
def z_h105 : List (Nat × Nat × Nat × Nat × Nat × Nat × Nat) := []
def z_m106 : zMi := (RX9, yX9_putDown, cX9_putDown, 2, none, [])
def z_c106 : List zI := [(2, 0, 0, 0), (27, 0, 0, 0), (37, 7, 2, 0), (0, 0, 0, 1), (1, 1, 0, 0), (13, 0, 0, 0), (17, 0, 0, 0), (38, 7, 2, 0), (53, 0, 0, 0)]
def z_i106 : List zJ := [(0, .aload_n 0, 1, []), (1, .dup, 1, []), (2, .getfield 18, 3, [235]), (5, .iconst 1, 1, []), (6, .iload_n 1, 1, []), (7, .ishl, 1, []), (8, .ior, 1, []), (9, .putfield 18, 3, [235]), (12, .return_, 1, [])]
def z_h106 : List (Nat × Nat × Nat × Nat × Nat × Nat × Nat) := []
def z_m107 : zMi := (RX9, yX9_takeAlong, cX9_takeAlong, 2, none, [])
def z_c107 : List zI := [(2, 0, 0, 0), (27, 0, 0, 0), (37, 7, 2, 0), (0, 0, 0, 1), (1, 1, 0, 0), (13, 0, 0, 0), (0, 0, 0, -1), (18, 0, 0, 0), (16, 0, 0, 0), (38, 7, 2, 0), (53, 0, 0, 0)]
def z_i107 : List zJ := [(0, .aload_n 0, 1, []), (1, .dup, 1, []), (2, .getfield 18, 3, [235]), (5, .iconst 1, 1, []), (6, .iload_n 1, 1, []), (7, .ishl, 1, []), (8, .iconst (-1), 1, []), (9, .ixor, 1, []), (10, .iand, 1, []), (11, .putfield 18, 3, [235]), (14, .return_, 1, [])]
def z_h107 : List (Nat × Nat × Nat × Nat × Nat × Nat × Nat) := []
def z_m108 : zMi := (RX9, yX9_bulkLeft, cX9_bulkLeft, 1, some .int, [])
def z_c108 : List zI := [(2, 0, 0, 0), (0, 0, 0, -1), (54, 109, 1, 7), (50, 0, 0, 0)]
def z_i108 : List zJ := [(0, .aload_n 0, 1, []), (1, .iconst (-1), 1, []), (2, .invokevirtual 39, 3, [1087, 579, 580, 106, 581]), (5, .ireturn, 1, [])]
def z_h108 : List (Nat × Nat × Nat × Nat × Nat × Nat × Nat) := []
def z_m109 : zMi := (RX9, yX9_bulkLeftByOthers, cX9_bulkLeftByOthers, 4, some .int, [])
def z_c109 : List zI := [(0, 0, 0, 0), (4, 2, 0, 0), (0, 0, 0, 0), (4, 3, 0, 0), (1, 3, 0, 0), (2, 0, 0, 0), (37, 7, 3, 0), (32, 31, 3, 0), (2, 0, 0, 0), (37, 7, 2, 0), (1, 3, 0, 0), (14, 0, 0, 0), (0, 0, 0, 1), (16, 0, 0, 0), (0, 0, 0, 1), (32, 29, 1, 0), (2, 0, 0, 0), (37, 7, 0, 0), (1, 3, 0, 0), (39, 0, 0, 0), (1, 1, 0, 0), (32, 29, 0, 0), (1, 2, 0, 0), (2, 0, 0, 0), (37, 7, 1, 0), (1, 3, 0, 0), (39, 0, 0, 0), (8, 0, 0, 0), (4, 2, 0, 0), (7, 3, 0, 1), (30, 4, 0, 0), (1, 2, 0, 0), (50, 0, 0, 0)]
def z_i109 : List zJ := [(0, .iconst 0, 1, []), (1, .istore_n 2, 1, []), (2, .iconst 0, 1, []), (3, .istore_n 3, 1, []), (4, .iload_n 3, 1, []), (5, .aload_n 0, 1, []), (6, .getfield 22, 3, [237]), (9, .if_icmp .ge 40, 3, []), (12, .aload_n 0, 1, []), (13, .getfield 18, 3, [235]), (16, .iload_n 3, 1, []), (17, .ishr, 1, []), (18, .iconst 1, 1, []), (19, .iand, 1, []), (20, .iconst 1, 1, []), (21, .if_icmp .ne 22, 3, []), (24, .aload_n 0, 1, []), (25, .getfield 9, 3, [229]), (28, .iload_n 3, 1, []), (29, .iaload, 1, []), (30, .iload_n 1, 1, []), (31, .if_icmp .eq 12, 3, []), (34, .iload_n 2, 1, []), (35, .aload_n 0, 1, []), (36, .getfield 15, 3, [232]), (39, .iload_n 3, 1, []), (40, .iaload, 1, []), (41, .iadd, 1, []), (42, .istore_n 2, 1, []), (43, .iinc 3 1, 3, []), (46, .goto (-42), 3, []), (49, .iload_n 2, 1, []), (50, .ireturn, 1, [])]
def z_h109 : List (Nat × Nat × Nat × Nat × Nat × Nat × Nat) := []
def z_m110 : zMi := (RX10, yX10_worthOf, cX10_worthOf, 5, some .int, [])
def z_c110 : List zI := [(2, 0, 0, 0), (1, 1, 0, 0), (54, 28, 1, 1), (4, 2, 0, 0), (1, 2, 0, 0), (0, 0, 0, -12582976), (16, 0, 0, 0), (4, 3, 0, 0), (1, 3, 0, 0), (2, 0, 0, 0), (37, 1, 1, 0), (1, 1, 0, 0), (54, 15, 1, 0), (16, 0, 0, 0), (4, 4, 0, 0), (0, 0, 0, 3), (1, 2, 0, 0), (0, 0, 0, 12582975), (16, 0, 0, 0), (55, 311, 1, 0), (10, 0, 0, 0), (1, 3, 0, 0), (55, 311, 1, 0), (8, 0, 0, 0), (1, 4, 0, 0), (55, 311, 1, 0), (8, 0, 0, 0), (50, 0, 0, 0)]
def z_i110 : List zJ := [(0, .aload_n 0, 1, []), (1, .iload_n 1, 1, []), (2, .invokevirtual 9, 3, [524, 467, 468, 104, 469]), (5, .istore_n 2, 1, []), (6, .iload_n 2, 1, []), (7, .ldc 15, 2, [525]), (9, .iand, 1, []), (10, .istore_n 3, 1, []), (11, .iload_n 3, 1, []), (12, .aload_n 0, 1, []), (13, .getfield 16, 3, [272]), (16, .iload_n 1, 1, []), (17, .invokevirtual 20, 3, [526, 478, 479, 105, 480]), (20, .iand, 1, []), (21, .istore 4, 2, []), (23, .iconst 3, 1, []), (24, .iload_n 2, 1, []), (25, .ldc 25, 2, [527]), (27, .iand, 1, []), (28, .invokestatic 26, 3, [528, 482, 126, 483]), (31, .imul, 1, []), (32, .iload_n 3, 1, []), (33, .invokestatic 26, 3, [528, 482, 126, 483]), (36, .iadd, 1, []), (37, .iload 4, 2, []), (39, .invokestatic 26, 3, [528, 482, 126, 483]), (42, .iadd, 1, []), (43, .ireturn, 1, [])]
def z_h110 : List (Nat × Nat × Nat × Nat × Nat × Nat × Nat) := []
def z_m111 : zMi := (RX10, yX10_partOf, cX10_partOf, 11, some .int, [])
def z_c111 : List zI := [(2, 0, 0, 0), (37, 1, 1, 0), (54, 11, 0, 0), (4, 3, 0, 0), (2, 0, 0, 0), (37, 1, 1, 0), (37, 0, 4, 0), (4, 4, 0, 0), (2, 0, 0, 0), (1, 3, 0, 0), (55, 110, 2, 0), (4, 5, 0, 0), (1, 5, 0, 0), (31, 16, 4, 0), (0, 0, 0, 0), (50, 0, 0, 0), (25, 0, 0, 0), (6, 6, 0, 0), (0, 0, 0, 0), (4, 8, 0, 0), (1, 8, 0, 0), (1, 3, 0, 0), (32, 61, 4, 0), (1, 8, 0, 0), (1, 1, 0, 0), (14, 0, 0, 0), (0, 0, 0, 1), (16, 0, 0, 0), (31, 59, 1, 0), (1, 8, 0, 0), (55, 311, 1, 0), (4, 9, 0, 0), (2, 0, 0, 0), (1, 8, 0, 0), (0, 0, 0, 1), (1, 1, 0, 0), (13, 0, 0, 0), (17, 0, 0, 0), (55, 110, 2, 0), (2, 0, 0, 0), (1, 8, 0, 0), (55, 110, 2, 0), (9, 0, 0, 0), (4, 10, 0, 0), (3, 6, 0, 0), (1, 9, 0, 0), (55, 112, 1, 0), (1, 4, 0, 0), (0, 0, 0, 1), (9, 0, 0, 0), (1, 9, 0, 0), (9, 0, 0, 0), (55, 112, 1, 0), (23, 0, 0, 0), (1, 10, 0, 0), (19, 0, 0, 0), (23, 0, 0, 0), (22, 0, 0, 0), (6, 6, 0, 0), (7, 8, 0, 1), (30, 20, 0, 0), (25, 0, 0, 100), (1, 2, 0, 0), (19, 0, 0, 0), (23, 0, 0, 0), (3, 6, 0, 0), (23, 0, 0, 0), (1, 4, 0, 0), (55, 112, 1, 0), (1, 5, 0, 0), (19, 0, 0, 0), (23, 0, 0, 0), (24, 0, 0, 0), (20, 0, 0, 0), (50, 0, 0, 0)]
def z_i111 : List zJ := [(0, .aload_n 0, 1, []), (1, .getfield 16, 3, [272]), (4, .invokevirtual 31, 3, [1294, 463, 464, 105, 465]), (7, .istore_n 3, 1, []), (8, .aload_n 0, 1, []), (9, .getfield 16, 3, [272]), (12, .getfield 35, 3, [208]), (15, .istore 4, 2, []), (17, .aload_n 0, 1, []), (18, .iload_n 3, 1, []), (19, .invokestatic 39, 3, [1295, 522, 129, 523]), (22, .istore 5, 2, []), (24, .iload 5, 2, []), (26, .ifCond .gt 5, 3, []), (29, .iconst 0, 1, []), (30, .ireturn, 1, []), (31, .lconst 0, 1, []), (32, .lstore 6, 2, []), (34, .iconst 0, 1, []), (35, .istore 8, 2, []), (37, .iload 8, 2, []), (39, .iload_n 3, 1, []), (40, .if_icmp .gt 69, 3, []), (43, .iload 8, 2, []), (45, .iload_n 1, 1, []), (46, .ishr, 1, []), (47, .iconst 1, 1, []), (48, .iand, 1, []), (49, .ifCond .ne 54, 3, []), (52, .iload 8, 2, []), (54, .invokestatic 26, 3, [528, 482, 126, 483]), (57, .istore 9, 2, []), (59, .aload_n 0, 1, []), (60, .iload 8, 2, []), (62, .iconst 1, 1, []), (63, .iload_n 1, 1, []), (64, .ishl, 1, []), (65, .ior, 1, []), (66, .invokestatic 39, 3, [1295, 522, 129, 523]), (69, .aload_n 0, 1, []), (70, .iload 8, 2, []), (72, .invokestatic 39, 3, [1295, 522, 129, 523]), (75, .isub, 1, []), (76, .istore 10, 2, []), (78, .lload 6, 2, []), (80, .iload 9, 2, []), (82, .invokestatic 45, 3, [1296, 1297, 129, 1298]), (85, .iload 4, 2, []), (87, .iconst 1, 1, []), (88, .isub, 1, []), (89, .iload 9, 2, []), (91, .isub, 1, []), (92, .invokestatic 45, 3, [1296, 1297, 129, 1298]), (95, .lmul, 1, []), (96, .iload 10, 2, []), (98, .i2l, 1, []), (99, .lmul, 1, []), (100, .ladd, 1, []), (101, .lstore 6, 2, []), (103, .iinc 8 1, 3, []), (106, .goto (-69), 3, []), (109, .ldc2_w 49, 3, [1299]), (112, .iload_n 2, 1, []), (113, .i2l, 1, []), (114, .lmul, 1, []), (115, .lload 6, 2, []), (117, .lmul, 1, []), (118, .iload 4, 2, []), (120, .invokestatic 45, 3, [1296, 1297, 129, 1298]), (123, .iload 5, 2, []), (125, .i2l, 1, []), (126, .lmul, 1, []), (127, .ldiv, 1, []), (128, .l2i, 1, []), (129, .ireturn, 1, [])]
def z_h111 : List (Nat × Nat × Nat × Nat × Nat × Nat × Nat) := []
def z_m112 : zMi := (RX10, yX10_ordersOf, cX10_ordersOf, 4, some .long, [])
def z_c112 : List zI := [(25, 0, 0, 1), (6, 1, 0, 0), (0, 0, 0, 2), (4, 3, 0, 0), (1, 3, 0, 0), (1, 0, 0, 0), (32, 14, 4, 0), (3, 1, 0, 0), (1, 3, 0, 0), (19, 0, 0, 0), (23, 0, 0, 0), (6, 1, 0, 0), (7, 3, 0, 1), (30, 4, 0, 0), (3, 1, 0, 0), (51, 0, 0, 0)]
def z_i112 : List zJ := [(0, .lconst 1, 1, []), (1, .lstore_n 1, 1, []), (2, .iconst 2, 1, []), (3, .istore_n 3, 1, []), (4, .iload_n 3, 1, []), (5, .iload_n 0, 1, []), (6, .if_icmp .gt 14, 3, []), (9, .lload_n 1, 1, []), (10, .iload_n 3, 1, []), (11, .i2l, 1, []), (12, .lmul, 1, []), (13, .lstore_n 1, 1, []), (14, .iinc 3 1, 3, []), (17, .goto (-13), 3, []), (20, .lload_n 1, 1, []), (21, .lreturn, 1, [])]
def z_h112 : List (Nat × Nat × Nat × Nat × Nat × Nat × Nat) := []
def z_m113 : zMi := (RX10, yX10_settledBids, cX10_settledBids, 7, some .int, [])
def z_c113 : List zI := [(0, 0, 0, 0), (4, 4, 0, 0), (0, 0, 0, 0), (4, 5, 0, 0), (1, 5, 0, 0), (0, 0, 0, 1), (32, 40, 4, 0), (0, 0, 0, 0), (4, 6, 0, 0), (1, 6, 0, 0), (0, 0, 0, 1), (32, 38, 4, 0), (2, 0, 0, 0), (1, 1, 0, 0), (1, 3, 0, 0), (1, 5, 0, 0), (1, 6, 0, 0), (55, 114, 5, 0), (31, 36, 0, 0), (2, 0, 0, 0), (1, 2, 0, 0), (1, 3, 0, 0), (1, 6, 0, 0), (1, 5, 0, 0), (55, 114, 5, 0), (31, 36, 0, 0), (1, 4, 0, 0), (0, 0, 0, 1), (0, 0, 0, 2), (1, 5, 0, 0), (10, 0, 0, 0), (1, 6, 0, 0), (8, 0, 0, 0), (13, 0, 0, 0), (17, 0, 0, 0), (4, 4, 0, 0), (7, 6, 0, 1), (30, 9, 0, 0), (7, 5, 0, 1), (30, 4, 0, 0), (1, 4, 0, 0), (50, 0, 0, 0)]
def z_i113 : List zJ := [(0, .iconst 0, 1, []), (1, .istore 4, 2, []), (3, .iconst 0, 1, []), (4, .istore 5, 2, []), (6, .iload 5, 2, []), (8, .iconst 1, 1, []), (9, .if_icmp .gt 64, 3, []), (12, .iconst 0, 1, []), (13, .istore 6, 2, []), (15, .iload 6, 2, []), (17, .iconst 1, 1, []), (18, .if_icmp .gt 49, 3, []), (21, .aload_n 0, 1, []), (22, .iload_n 1, 1, []), (23, .iload_n 3, 1, []), (24, .iload 5, 2, []), (26, .iload 6, 2, []), (28, .invokestatic 51, 3, [1327, 1328, 129, 1329]), (31, .ifCond .eq 30, 3, []), (34, .aload_n 0, 1, []), (35, .iload_n 2, 1, []), (36, .iload_n 3, 1, []), (37, .iload 6, 2, []), (39, .iload 5, 2, []), (41, .invokestatic 51, 3, [1327, 1328, 129, 1329]), (44, .ifCond .eq 17, 3, []), (47, .iload 4, 2, []), (49, .iconst 1, 1, []), (50, .iconst 2, 1, []), (51, .iload 5, 2, []), (53, .imul, 1, []), (54, .iload 6, 2, []), (56, .iadd, 1, []), (57, .ishl, 1, []), (58, .ior, 1, []), (59, .istore 4, 2, []), (61, .iinc 6 1, 3, []), (64, .goto (-49), 3, []), (67, .iinc 5 1, 3, []), (70, .goto (-64), 3, []), (73, .iload 4, 2, []), (75, .ireturn, 1, [])]
def z_h113 : List (Nat × Nat × Nat × Nat × Nat × Nat × Nat) := []
def z_m114 : zMi := (RX10, yX10_staysWith, cX10_staysWith, 5, some .boolean, [])
def z_c114 : List zI := [(2, 0, 0, 0), (1, 1, 0, 0), (1, 2, 0, 0), (1, 3, 0, 0), (1, 4, 0, 0), (55, 115, 5, 0), (2, 0, 0, 0), (1, 1, 0, 0), (1, 2, 0, 0), (0, 0, 0, 1), (1, 3, 0, 0), (9, 0, 0, 0), (1, 4, 0, 0), (55, 115, 5, 0), (32, 17, 2, 0), (0, 0, 0, 1), (30, 18, 0, 0), (0, 0, 0, 0), (50, 0, 0, 0)]
def z_i114 : List zJ := [(0, .aload_n 0, 1, []), (1, .iload_n 1, 1, []), (2, .iload_n 2, 1, []), (3, .iload_n 3, 1, []), (4, .iload 4, 2, []), (6, .invokestatic 55, 3, [1330, 1331, 129, 1332]), (9, .aload_n 0, 1, []), (10, .iload_n 1, 1, []), (11, .iload_n 2, 1, []), (12, .iconst 1, 1, []), (13, .iload_n 3, 1, []), (14, .isub, 1, []), (15, .iload 4, 2, []), (17, .invokestatic 55, 3, [1330, 1331, 129, 1332]), (20, .if_icmp .lt 7, 3, []), (23, .iconst 1, 1, []), (24, .goto 4, 3, []), (27, .iconst 0, 1, []), (28, .ireturn, 1, [])]
def z_h114 : List (Nat × Nat × Nat × Nat × Nat × Nat × Nat) := []
def z_m115 : zMi := (RX10, yX10_bidGain, cX10_bidGain, 6, some .int, [])
def z_c115 : List zI := [(2, 0, 0, 0), (37, 1, 15, 0), (0, 0, 0, 1), (1, 3, 0, 0), (8, 0, 0, 0), (10, 0, 0, 0), (4, 5, 0, 0), (1, 5, 0, 0), (2, 0, 0, 0), (37, 1, 15, 0), (0, 0, 0, 1), (1, 4, 0, 0), (8, 0, 0, 0), (10, 0, 0, 0), (32, 17, 4, 0), (0, 0, 0, 0), (50, 0, 0, 0), (2, 0, 0, 0), (37, 1, 1, 0), (1, 1, 0, 0), (1, 2, 0, 0), (54, 14, 2, 0), (31, 25, 0, 0), (0, 0, 0, 30), (30, 26, 0, 0), (0, 0, 0, 15), (1, 5, 0, 0), (9, 0, 0, 0), (50, 0, 0, 0)]
def z_i115 : List zJ := [(0, .aload_n 0, 1, []), (1, .getfield 59, 3, [303]), (4, .iconst 1, 1, []), (5, .iload_n 3, 1, []), (6, .iadd, 1, []), (7, .imul, 1, []), (8, .istore 5, 2, []), (10, .iload 5, 2, []), (12, .aload_n 0, 1, []), (13, .getfield 59, 3, [303]), (16, .iconst 1, 1, []), (17, .iload 4, 2, []), (19, .iadd, 1, []), (20, .imul, 1, []), (21, .if_icmp .gt 5, 3, []), (24, .iconst 0, 1, []), (25, .ireturn, 1, []), (26, .aload_n 0, 1, []), (27, .getfield 16, 3, [272]), (30, .iload_n 1, 1, []), (31, .iload_n 2, 1, []), (32, .invokevirtual 62, 3, [1333, 502, 503, 105, 504]), (35, .ifCond .eq 8, 3, []), (38, .bipush 30, 2, []), (40, .goto 5, 3, []), (43, .bipush 15, 2, []), (45, .iload 5, 2, []), (47, .isub, 1, []), (48, .ireturn, 1, [])]
def z_h115 : List (Nat × Nat × Nat × Nat × Nat × Nat × Nat) := []
def z_m116 : zMi := (RX10, yX10_richestOf, cX10_richestOf, 6, some .int, [])
def z_c116 : List zI := [(0, 0, 0, -1), (4, 1, 0, 0), (0, 0, 0, -1), (4, 2, 0, 0), (0, 0, 0, 0), (4, 3, 0, 0), (1, 3, 0, 0), (2, 0, 0, 0), (37, 1, 1, 0), (37, 0, 4, 0), (32, 38, 3, 0), (2, 0, 0, 0), (0, 0, 0, 1), (1, 3, 0, 0), (13, 0, 0, 0), (54, 28, 1, 1), (55, 311, 1, 0), (4, 4, 0, 0), (2, 0, 0, 0), (37, 1, 1, 0), (37, 0, 0, 0), (1, 3, 0, 0), (39, 0, 0, 0), (2, 0, 0, 0), (37, 1, 15, 0), (1, 4, 0, 0), (10, 0, 0, 0), (8, 0, 0, 0), (4, 5, 0, 0), (1, 5, 0, 0), (1, 2, 0, 0), (32, 36, 5, 0), (1, 5, 0, 0), (4, 2, 0, 0), (1, 3, 0, 0), (4, 1, 0, 0), (7, 3, 0, 1), (30, 6, 0, 0), (1, 1, 0, 0), (50, 0, 0, 0)]
def z_i116 : List zJ := [(0, .iconst (-1), 1, []), (1, .istore_n 1, 1, []), (2, .iconst (-1), 1, []), (3, .istore_n 2, 1, []), (4, .iconst 0, 1, []), (5, .istore_n 3, 1, []), (6, .iload_n 3, 1, []), (7, .aload_n 0, 1, []), (8, .getfield 16, 3, [272]), (11, .getfield 35, 3, [208]), (14, .if_icmp .ge 51, 3, []), (17, .aload_n 0, 1, []), (18, .iconst 1, 1, []), (19, .iload_n 3, 1, []), (20, .ishl, 1, []), (21, .invokevirtual 9, 3, [524, 467, 468, 104, 469]), (24, .invokestatic 26, 3, [528, 482, 126, 483]), (27, .istore 4, 2, []), (29, .aload_n 0, 1, []), (30, .getfield 16, 3, [272]), (33, .getfield 66, 3, [197]), (36, .iload_n 3, 1, []), (37, .iaload, 1, []), (38, .aload_n 0, 1, []), (39, .getfield 59, 3, [303]), (42, .iload 4, 2, []), (44, .imul, 1, []), (45, .iadd, 1, []), (46, .istore 5, 2, []), (48, .iload 5, 2, []), (50, .iload_n 2, 1, []), (51, .if_icmp .le 8, 3, []), (54, .iload 5, 2, []), (56, .istore_n 2, 1, []), (57, .iload_n 3, 1, []), (58, .istore_n 1, 1, []), (59, .iinc 3 1, 3, []), (62, .goto (-56), 3, []), (65, .iload_n 1, 1, []), (66, .ireturn, 1, [])]
def z_h116 : List (Nat × Nat × Nat × Nat × Nat × Nat × Nat) := []
def z_m117 : zMi := (RX11, yX11_init, cX11_init, 1, none, [])
def z_c117 : List zI := [(2, 0, 0, 0), (57, 0, 0, 0), (2, 0, 0, 0), (49, 6, 0, 0), (27, 0, 0, 0), (73, 84, 0, 0), (38, 8, 0, 2), (2, 0, 0, 0), (49, 3, 0, 0), (27, 0, 0, 0), (73, 46, 0, 0), (38, 8, 1, 2), (2, 0, 0, 0), (49, 1, 0, 0), (27, 0, 0, 0), (56, 22, 0, 0), (38, 8, 2, 2), (2, 0, 0, 0), (49, 1, 0, 0), (27, 0, 0, 0), (56, 22, 0, 0), (38, 8, 3, 2), (2, 0, 0, 0), (49, 1, 0, 0), (27, 0, 0, 0), (56, 22, 0, 0), (38, 8, 4, 2), (2, 0, 0, 0), (49, 5, 0, 0), (27, 0, 0, 0), (56, 61, 0, 0), (38, 8, 5, 2), (2, 0, 0, 0), (0, 0, 0, 0), (38, 8, 6, 1), (2, 0, 0, 0), (0, 0, 0, -1), (38, 8, 7, 0), (53, 0, 0, 0)]
def z_i117 : List zJ := [(0, .aload_n 0, 1, []), (1, .invokespecial 1, 3, [135, 136, 137]), (4, .aload_n 0, 1, []), (5, .new 7, 3, [138, 139, 102]), (8, .dup, 1, []), (9, .invokespecial 9, 3, [141, 102, 142]), (12, .putfield 10, 3, [366]), (15, .aload_n 0, 1, []), (16, .new 16, 3, [159, 160, 103]), (19, .dup, 1, []), (20, .invokespecial 18, 3, [162, 103, 163]), (23, .putfield 19, 3, [367]), (26, .aload_n 0, 1, []), (27, .new 23, 3, [184, 185, 104]), (30, .dup, 1, []), (31, .invokespecial 25, 3, [186, 187, 104, 188]), (34, .putfield 26, 3, [368]), (37, .aload_n 0, 1, []), (38, .new 23, 3, [184, 185, 104]), (41, .dup, 1, []), (42, .invokespecial 25, 3, [186, 187, 104, 188]), (45, .putfield 30, 3, [369]), (48, .aload_n 0, 1, []), (49, .new 23, 3, [184, 185, 104]), (52, .dup, 1, []), (53, .invokespecial 25, 3, [186, 187, 104, 188]), (56, .putfield 33, 3, [370]), (59, .aload_n 0, 1, []), (60, .new 36, 3, [346, 347, 109]), (63, .dup, 1, []), (64, .invokespecial 38, 3, [348, 349, 109, 350]), (67, .putfield 39, 3, [371]), (70, .aload_n 0, 1, []), (71, .iconst 0, 1, []), (72, .putfield 43, 3, [372]), (75, .aload_n 0, 1, []), (76, .iconst (-1), 1, []), (77, .putfield 47, 3, [373]), (80, .return_, 1, [])]
def z_h117 : List (Nat × Nat × Nat × Nat × Nat × Nat × Nat) := []
def z_m118 : zMi := (RX11, yX11_feed, cX11_feed, 6, some .int, [])
def z_c118 : List zI := [(2, 0, 0, 0), (37, 8, 0, 0), (37, 6, 1, 0), (0, 0, 0, 20), (8, 0, 0, 0), (0, 0, 0, 400), (32, 9, 5, 0), (0, 0, 0, -1), (50, 0, 0, 0), (2, 0, 0, 0), (37, 8, 0, 0), (1, 1, 0, 0), (54, 85, 1, 6), (2, 0, 0, 0), (37, 8, 0, 0), (1, 2, 0, 0), (54, 85, 1, 6), (2, 0, 0, 0), (37, 8, 0, 0), (1, 3, 0, 0), (54, 85, 1, 6), (2, 0, 0, 0), (37, 8, 0, 0), (1, 4, 0, 0), (54, 85, 1, 6), (2, 0, 0, 0), (37, 8, 0, 0), (1, 5, 0, 0), (54, 85, 1, 6), (2, 0, 0, 0), (37, 8, 0, 0), (37, 6, 1, 0), (50, 0, 0, 0)]
def z_i118 : List zJ := [(0, .aload_n 0, 1, []), (1, .getfield 10, 3, [366]), (4, .getfield 51, 3, [146]), (7, .bipush 20, 2, []), (9, .iadd, 1, []), (10, .sipush 400, 3, []), (13, .if_icmp .le 5, 3, []), (16, .iconst (-1), 1, []), (17, .ireturn, 1, []), (18, .aload_n 0, 1, []), (19, .getfield 10, 3, [366]), (22, .iload_n 1, 1, []), (23, .invokevirtual 54, 3, [395, 396, 397, 102, 398]), (26, .aload_n 0, 1, []), (27, .getfield 10, 3, [366]), (30, .iload_n 2, 1, []), (31, .invokevirtual 54, 3, [395, 396, 397, 102, 398]), (34, .aload_n 0, 1, []), (35, .getfield 10, 3, [366]), (38, .iload_n 3, 1, []), (39, .invokevirtual 54, 3, [395, 396, 397, 102, 398]), (42, .aload_n 0, 1, []), (43, .getfield 10, 3, [366]), (46, .iload 4, 2, []), (48, .invokevirtual 54, 3, [395, 396, 397, 102, 398]), (51, .aload_n 0, 1, []), (52, .getfield 10, 3, [366]), (55, .iload 5, 2, []), (57, .invokevirtual 54, 3, [395, 396, 397, 102, 398]), (60, .aload_n 0, 1, []), (61, .getfield 10, 3, [366]), (64, .getfield 51, 3, [146]), (67, .ireturn, 1, [])]
def z_h118 : List (Nat × Nat × Nat × Nat × Nat × Nat × Nat) := []
def z_m119 : zMi := (RX11, yX11_end, cX11_end, 2, some .boolean, [])
def z_c119 : List zI := [(1, 1, 0, 0), (31, 7, 2, 0), (1, 1, 0, 0), (2, 0, 0, 0), (37, 8, 0, 0), (37, 6, 1, 0), (32, 9, 5, 0), (0, 0, 0, 0), (50, 0, 0, 0), (2, 0, 0, 0), (37, 8, 0, 0), (1, 1, 0, 0), (38, 6, 1, 0), (0, 0, 0, 1), (50, 0, 0, 0)]
def z_i119 : List zJ := [(0, .iload_n 1, 1, []), (1, .ifCond .lt 14, 3, []), (4, .iload_n 1, 1, []), (5, .aload_n 0, 1, []), (6, .getfield 10, 3, [366]), (9, .getfield 51, 3, [146]), (12, .if_icmp .le 5, 3, []), (15, .iconst 0, 1, []), (16, .ireturn, 1, []), (17, .aload_n 0, 1, []), (18, .getfield 10, 3, [366]), (21, .iload_n 1, 1, []), (22, .putfield 51, 3, [146]), (25, .iconst 1, 1, []), (26, .ireturn, 1, [])]
def z_h119 : List (Nat × Nat × Nat × Nat × Nat × Nat × Nat) := []
def z_m120 : zMi := (RX11, yX11_deed, cX11_deed, 1, some .int, [])
def z_c120 : List zI := [(2, 0, 0, 0), (37, 8, 3, 0), (2, 0, 0, 0), (37, 8, 2, 0), (54, 23, 1, 1), (2, 0, 0, 0), (2, 0, 0, 0), (37, 8, 3, 0), (2, 0, 0, 0), (37, 8, 0, 0), (55, 0, 2, 0), (38, 8, 7, 0), (2, 0, 0, 0), (37, 8, 0, 0), (0, 0, 0, 0), (38, 6, 1, 0), (2, 0, 0, 0), (37, 8, 7, 0), (0, 0, 0, -1), (32, 25, 0, 0), (62, 0, 0, 0), (99, 0, 0, 0), (99, 0, 0, 0), (99, 0, 0, 0), (99, 0, 0, 0), (2, 0, 0, 0), (37, 8, 2, 0), (37, 1, 6, 0), (0, 0, 0, 12), (32, 35, 2, 0), (62, 1, 1, 0), (99, 0, 0, 0), (99, 0, 0, 0), (99, 0, 0, 0), (99, 0, 0, 0), (2, 0, 0, 0), (37, 8, 2, 0), (2, 0, 0, 0), (37, 8, 3, 0), (54, 23, 1, 1), (2, 0, 0, 0), (37, 8, 2, 0), (27, 0, 0, 0), (37, 1, 6, 0), (0, 0, 0, 1), (8, 0, 0, 0), (38, 1, 6, 0), (2, 0, 0, 0), (37, 8, 5, 0), (54, 64, 0, 5), (2, 0, 0, 0), (37, 8, 2, 0), (37, 1, 6, 0), (50, 0, 0, 0)]
def z_i120 : List zJ := [(0, .aload_n 0, 1, []), (1, .getfield 30, 3, [369]), (4, .aload_n 0, 1, []), (5, .getfield 26, 3, [368]), (8, .invokevirtual 58, 3, [598, 416, 417, 104, 418]), (11, .aload_n 0, 1, []), (12, .aload_n 0, 1, []), (13, .getfield 30, 3, [369]), (16, .aload_n 0, 1, []), (17, .getfield 10, 3, [366]), (20, .invokestatic 62, 3, [628, 629, 112, 630]), (23, .putfield 47, 3, [373]), (26, .aload_n 0, 1, []), (27, .getfield 10, 3, [366]), (30, .iconst 0, 1, []), (31, .putfield 51, 3, [146]), (34, .aload_n 0, 1, []), (35, .getfield 47, 3, [373]), (38, .iconst (-1), 1, []), (39, .if_icmp .eq 13, 3, []), (42, .new 68, 3, [796, 121, 70, 72]), (45, .dup, 1, []), (46, .ldc 70, 2, []), (48, .invokespecial 72, 3, []), (51, .athrow, 1, []), (52, .aload_n 0, 1, []), (53, .getfield 26, 3, [368]), (56, .getfield 75, 3, [285]), (59, .bipush 12, 2, []), (61, .if_icmp .lt 13, 3, []), (64, .new 78, 3, [866, 122, 80, 82]), (67, .dup, 1, []), (68, .ldc 80, 2, []), (70, .invokespecial 82, 3, []), (73, .athrow, 1, []), (74, .aload_n 0, 1, []), (75, .getfield 26, 3, [368]), (78, .aload_n 0, 1, []), (79, .getfield 30, 3, [369]), (82, .invokevirtual 58, 3, [598, 416, 417, 104, 418]), (85, .aload_n 0, 1, []), (86, .getfield 26, 3, [368]), (89, .dup, 1, []), (90, .getfield 75, 3, [285]), (93, .iconst 1, 1, []), (94, .iadd, 1, []), (95, .putfield 75, 3, [285]), (98, .aload_n 0, 1, []), (99, .getfield 39, 3, [371]), (102, .invokevirtual 83, 3, [603, 604, 605, 109, 606]), (105, .aload_n 0, 1, []), (106, .getfield 26, 3, [368]), (109, .getfield 75, 3, [285]), (112, .ireturn, 1, [])]
def z_h120 : List (Nat × Nat × Nat × Nat × Nat × Nat × Nat) := []
def z_m121 : zMi := (RX11, yX11_law, cX11_law, 2, some .int, [])
def z_c121 : List zI := [(2, 0, 0, 0), (2, 0, 0, 0), (37, 8, 1, 0), (2, 0, 0, 0), (37, 8, 0, 0), (54, 47, 1, 3), (38, 8, 7, 0), (2, 0, 0, 0), (37, 8, 0, 0), (0, 0, 0, 0), (38, 6, 1, 0), (2, 0, 0, 0), (37, 8, 7, 0), (0, 0, 0, -1), (32, 20, 0, 0), (62, 0, 2, 0), (99, 0, 0, 0), (99, 0, 0, 0), (99, 0, 0, 0), (99, 0, 0, 0), (2, 0, 0, 0), (37, 8, 1, 0), (54, 48, 0, 3), (5, 1, 0, 0), (2, 0, 0, 0), (37, 8, 2, 0), (2, 1, 0, 0), (38, 1, 5, 2), (2, 0, 0, 0), (37, 8, 5, 0), (54, 64, 0, 5), (2, 1, 0, 0), (37, 2, 0, 0), (50, 0, 0, 0)]
def z_i121 : List zJ := [(0, .aload_n 0, 1, []), (1, .aload_n 0, 1, []), (2, .getfield 19, 3, [367]), (5, .aload_n 0, 1, []), (6, .getfield 10, 3, [366]), (9, .invokevirtual 86, 3, [889, 890, 891, 103, 892]), (12, .putfield 47, 3, [373]), (15, .aload_n 0, 1, []), (16, .getfield 10, 3, [366]), (19, .iconst 0, 1, []), (20, .putfield 51, 3, [146]), (23, .aload_n 0, 1, []), (24, .getfield 47, 3, [373]), (27, .iconst (-1), 1, []), (28, .if_icmp .eq 13, 3, []), (31, .new 68, 3, [796, 121, 90, 72]), (34, .dup, 1, []), (35, .ldc 90, 2, []), (37, .invokespecial 72, 3, []), (40, .athrow, 1, []), (41, .aload_n 0, 1, []), (42, .getfield 19, 3, [367]), (45, .invokevirtual 92, 3, [946, 947, 948, 103, 949]), (48, .astore_n 1, 1, []), (49, .aload_n 0, 1, []), (50, .getfield 26, 3, [368]), (53, .aload_n 1, 1, []), (54, .putfield 96, 3, [283]), (57, .aload_n 0, 1, []), (58, .getfield 39, 3, [371]), (61, .invokevirtual 83, 3, [603, 604, 605, 109, 606]), (64, .aload_n 1, 1, []), (65, .getfield 100, 3, [971]), (68, .ireturn, 1, [])]
def z_h121 : List (Nat × Nat × Nat × Nat × Nat × Nat × Nat) := []
def z_m122 : zMi := (RX11, yX11_fault, cX11_fault, 1, some .int, [])
def z_c122 : List zI := [(2, 0, 0, 0), (37, 8, 7, 0), (50, 0, 0, 0)]
def z_i122 : List zJ := [(0, .aload_n 0, 1, []), (1, .getfield 47, 3, [373]), (4, .ireturn, 1, [])]
def z_h122 : List (Nat × Nat × Nat × Nat × Nat × Nat × Nat) := []
def z_m123 : zMi := (RX11, yX11_holds, cX11_holds, 2, some .int, [])
def z_c123 : List zI := [(2, 0, 0, 0), (1, 1, 0, 0), (54, 166, 1, 8), (2, 0, 0, 0), (37, 8, 2, 0), (37, 1, 0, 0), (1, 1, 0, 0), (39, 0, 0, 0), (50, 0, 0, 0)]
def z_i123 : List zJ := [(0, .aload_n 0, 1, []), (1, .iload_n 1, 1, []), (2, .invokevirtual 105, 3, [998, 1000, 8, 101, 1001]), (5, .aload_n 0, 1, []), (6, .getfield 26, 3, [368]), (9, .getfield 108, 3, [270]), (12, .iload_n 1, 1, []), (13, .iaload, 1, []), (14, .ireturn, 1, [])]
def z_h123 : List (Nat × Nat × Nat × Nat × Nat × Nat × Nat) := []
def z_m124 : zMi := (RX11, yX11_family, cX11_family, 4, some .int, [])
def z_c124 : List zI := [(2, 0, 0, 0), (1, 1, 0, 0), (54, 167, 1, 8), (2, 0, 0, 0), (1, 2, 0, 0), (0, 0, 0, 8), (54, 169, 2, 8), (2, 0, 0, 0), (37, 8, 2, 0), (0, 0, 0, 1), (1, 1, 0, 0), (13, 0, 0, 0), (54, 28, 1, 1), (4, 3, 0, 0), (1, 2, 0, 0), (35, 2, 0, 0), (2, 0, 0, 0), (37, 8, 2, 0), (37, 1, 1, 0), (1, 1, 0, 0), (54, 16, 1, 0), (50, 0, 0, 0), (2, 0, 0, 0), (37, 8, 2, 0), (37, 1, 1, 0), (37, 0, 1, 0), (1, 1, 0, 0), (39, 0, 0, 0), (50, 0, 0, 0), (2, 0, 0, 0), (37, 8, 2, 0), (37, 1, 1, 0), (37, 0, 2, 0), (1, 1, 0, 0), (39, 0, 0, 0), (50, 0, 0, 0), (2, 0, 0, 0), (37, 8, 2, 0), (37, 1, 1, 0), (37, 0, 3, 0), (1, 1, 0, 0), (39, 0, 0, 0), (50, 0, 0, 0), (1, 3, 0, 0), (50, 0, 0, 0), (1, 3, 0, 0), (55, 311, 1, 0), (50, 0, 0, 0), (1, 3, 0, 0), (55, 65, 1, 0), (50, 0, 0, 0), (1, 3, 0, 0), (2, 0, 0, 0), (37, 8, 2, 0), (37, 1, 1, 0), (37, 0, 3, 0), (1, 1, 0, 0), (39, 0, 0, 0), (16, 0, 0, 0), (55, 311, 1, 0), (50, 0, 0, 0), (2, 0, 0, 0), (37, 8, 2, 0), (1, 1, 0, 0), (55, 68, 2, 0), (50, 0, 0, 0)]
def z_i124 : List zJ := [(0, .aload_n 0, 1, []), (1, .iload_n 1, 1, []), (2, .invokevirtual 112, 3, [1026, 1028, 9, 101, 1029]), (5, .aload_n 0, 1, []), (6, .iload_n 2, 1, []), (7, .bipush 8, 2, []), (9, .invokevirtual 115, 3, [1032, 1034, 10, 101, 1035]), (12, .aload_n 0, 1, []), (13, .getfield 26, 3, [368]), (16, .iconst 1, 1, []), (17, .iload_n 1, 1, []), (18, .ishl, 1, []), (19, .invokevirtual 119, 3, [1052, 467, 468, 104, 469]), (22, .istore_n 3, 1, []), (23, .iload_n 2, 1, []), (24, .tableswitch 129 0 7 #[48, 60, 73, 86, 99, 101, 106, 111], 48, []), (72, .aload_n 0, 1, []), (73, .getfield 26, 3, [368]), (76, .getfield 123, 3, [275]), (79, .iload_n 1, 1, []), (80, .invokevirtual 127, 3, [1053, 1054, 1055, 105, 1056]), (83, .ireturn, 1, []), (84, .aload_n 0, 1, []), (85, .getfield 26, 3, [368]), (88, .getfield 123, 3, [275]), (91, .getfield 132, 3, [199]), (94, .iload_n 1, 1, []), (95, .iaload, 1, []), (96, .ireturn, 1, []), (97, .aload_n 0, 1, []), (98, .getfield 26, 3, [368]), (101, .getfield 123, 3, [275]), (104, .getfield 135, 3, [202]), (107, .iload_n 1, 1, []), (108, .iaload, 1, []), (109, .ireturn, 1, []), (110, .aload_n 0, 1, []), (111, .getfield 26, 3, [368]), (114, .getfield 123, 3, [275]), (117, .getfield 138, 3, [205]), (120, .iload_n 1, 1, []), (121, .iaload, 1, []), (122, .ireturn, 1, []), (123, .iload_n 3, 1, []), (124, .ireturn, 1, []), (125, .iload_n 3, 1, []), (126, .invokestatic 141, 3, [1057, 482, 126, 483]), (129, .ireturn, 1, []), (130, .iload_n 3, 1, []), (131, .invokestatic 146, 3, [1058, 1059, 127, 1060]), (134, .ireturn, 1, []), (135, .iload_n 3, 1, []), (136, .aload_n 0, 1, []), (137, .getfield 26, 3, [368]), (140, .getfield 123, 3, [275]), (143, .getfield 138, 3, [205]), (146, .iload_n 1, 1, []), (147, .iaload, 1, []), (148, .iand, 1, []), (149, .invokestatic 141, 3, [1057, 482, 126, 483]), (152, .ireturn, 1, []), (153, .aload_n 0, 1, []), (154, .getfield 26, 3, [368]), (157, .iload_n 1, 1, []), (158, .invokestatic 151, 3, [1064, 1065, 127, 1066]), (161, .ireturn, 1, [])]
def z_h124 : List (Nat × Nat × Nat × Nat × Nat × Nat × Nat) := []
def z_m125 : zMi := (RX11, yX11_does, cX11_does, 4, some .int, [])
def z_c125 : List zI := [(2, 0, 0, 0), (1, 1, 0, 0), (54, 167, 1, 8), (2, 0, 0, 0), (1, 2, 0, 0), (54, 166, 1, 8), (2, 0, 0, 0), (1, 3, 0, 0), (0, 0, 0, 1), (54, 169, 2, 8), (1, 3, 0, 0), (31, 18, 1, 0), (2, 0, 0, 0), (37, 8, 2, 0), (1, 1, 0, 0), (1, 2, 0, 0), (54, 30, 2, 1), (30, 23, 0, 0), (2, 0, 0, 0), (37, 8, 2, 0), (1, 1, 0, 0), (1, 2, 0, 0), (54, 31, 2, 1), (50, 0, 0, 0)]
def z_i125 : List zJ := [(0, .aload_n 0, 1, []), (1, .iload_n 1, 1, []), (2, .invokevirtual 112, 3, [1026, 1028, 9, 101, 1029]), (5, .aload_n 0, 1, []), (6, .iload_n 2, 1, []), (7, .invokevirtual 105, 3, [998, 1000, 8, 101, 1001]), (10, .aload_n 0, 1, []), (11, .iload_n 3, 1, []), (12, .iconst 1, 1, []), (13, .invokevirtual 115, 3, [1032, 1034, 10, 101, 1035]), (16, .iload_n 3, 1, []), (17, .ifCond .ne 15, 3, []), (20, .aload_n 0, 1, []), (21, .getfield 26, 3, [368]), (24, .iload_n 1, 1, []), (25, .iload_n 2, 1, []), (26, .invokevirtual 155, 3, [1074, 1075, 1076, 104, 1077]), (29, .goto 12, 3, []), (32, .aload_n 0, 1, []), (33, .getfield 26, 3, [368]), (36, .iload_n 1, 1, []), (37, .iload_n 2, 1, []), (38, .invokevirtual 159, 3, [1104, 1105, 1106, 104, 1107]), (41, .ireturn, 1, [])]
def z_h125 : List (Nat × Nat × Nat × Nat × Nat × Nat × Nat) := []
def z_m126 : zMi := (RX11, yX11_thing, cX11_thing, 3, some .int, [])
def z_c126 : List zI := [(2, 0, 0, 0), (1, 1, 0, 0), (54, 168, 1, 8), (2, 0, 0, 0), (1, 2, 0, 0), (0, 0, 0, 3), (54, 169, 2, 8), (1, 2, 0, 0), (35, 3, 0, 0), (2, 0, 0, 0), (37, 8, 2, 0), (37, 1, 2, 0), (37, 7, 0, 0), (1, 1, 0, 0), (39, 0, 0, 0), (50, 0, 0, 0), (2, 0, 0, 0), (37, 8, 2, 0), (37, 1, 2, 0), (37, 7, 1, 0), (1, 1, 0, 0), (39, 0, 0, 0), (50, 0, 0, 0), (2, 0, 0, 0), (37, 8, 2, 0), (37, 1, 2, 0), (1, 1, 0, 0), (54, 105, 1, 7), (31, 31, 0, 0), (0, 0, 0, 1), (30, 32, 0, 0), (0, 0, 0, 0), (50, 0, 0, 0), (2, 0, 0, 0), (37, 8, 2, 0), (1, 1, 0, 0), (54, 32, 1, 1), (50, 0, 0, 0)]
def z_i126 : List zJ := [(0, .aload_n 0, 1, []), (1, .iload_n 1, 1, []), (2, .invokevirtual 162, 3, [1115, 1117, 13, 101, 1118]), (5, .aload_n 0, 1, []), (6, .iload_n 2, 1, []), (7, .iconst 3, 1, []), (8, .invokevirtual 115, 3, [1032, 1034, 10, 101, 1035]), (11, .iload_n 2, 1, []), (12, .tableswitch 74 0 2 #[28, 41, 54], 28, []), (40, .aload_n 0, 1, []), (41, .getfield 26, 3, [368]), (44, .getfield 165, 3, [278]), (47, .getfield 169, 3, [230]), (50, .iload_n 1, 1, []), (51, .iaload, 1, []), (52, .ireturn, 1, []), (53, .aload_n 0, 1, []), (54, .getfield 26, 3, [368]), (57, .getfield 165, 3, [278]), (60, .getfield 174, 3, [233]), (63, .iload_n 1, 1, []), (64, .iaload, 1, []), (65, .ireturn, 1, []), (66, .aload_n 0, 1, []), (67, .getfield 26, 3, [368]), (70, .getfield 165, 3, [278]), (73, .iload_n 1, 1, []), (74, .invokevirtual 177, 3, [1124, 1125, 1126, 106, 1127]), (77, .ifCond .eq 7, 3, []), (80, .iconst 1, 1, []), (81, .goto 4, 3, []), (84, .iconst 0, 1, []), (85, .ireturn, 1, []), (86, .aload_n 0, 1, []), (87, .getfield 26, 3, [368]), (90, .iload_n 1, 1, []), (91, .invokevirtual 181, 3, [1128, 1129, 1130, 104, 1131]), (94, .ireturn, 1, [])]
def z_h126 : List (Nat × Nat × Nat × Nat × Nat × Nat × Nat) := []
def z_m127 : zMi := (RX11, yX11_sell, cX11_sell, 4, some .int, [])
def z_c127 : List zI := [(2, 0, 0, 0), (1, 1, 0, 0), (54, 166, 1, 8), (2, 0, 0, 0), (1, 2, 0, 0), (54, 167, 1, 8), (2, 0, 0, 0), (37, 8, 2, 0), (37, 1, 0, 0), (1, 1, 0, 0), (39, 0, 0, 0), (4, 3, 0, 0), (2, 0, 0, 0), (1, 3, 0, 0), (1, 2, 0, 0), (54, 171, 2, 8), (2, 0, 0, 0), (1, 3, 0, 0), (0, 0, 0, -1), (32, 31, 0, 0), (2, 0, 0, 0), (37, 8, 2, 0), (37, 1, 1, 0), (1, 2, 0, 0), (54, 16, 1, 0), (2, 0, 0, 0), (37, 8, 2, 0), (37, 1, 15, 0), (32, 31, 2, 0), (0, 0, 0, 1), (30, 32, 0, 0), (0, 0, 0, 0), (54, 172, 1, 8), (2, 0, 0, 0), (37, 8, 5, 0), (2, 0, 0, 0), (37, 8, 2, 0), (54, 62, 1, 5), (2, 0, 0, 0), (37, 8, 2, 0), (37, 1, 1, 0), (1, 2, 0, 0), (2, 0, 0, 0), (37, 8, 2, 0), (37, 1, 15, 0), (54, 17, 2, 0), (2, 0, 0, 0), (37, 8, 2, 0), (37, 1, 1, 0), (1, 3, 0, 0), (2, 0, 0, 0), (37, 8, 2, 0), (37, 1, 15, 0), (54, 18, 2, 0), (2, 0, 0, 0), (37, 8, 2, 0), (37, 1, 0, 0), (1, 1, 0, 0), (1, 2, 0, 0), (40, 0, 0, 0), (2, 0, 0, 0), (37, 8, 2, 0), (37, 1, 1, 0), (1, 3, 0, 0), (54, 16, 1, 0), (50, 0, 0, 0)]
def z_i127 : List zJ := [(0, .aload_n 0, 1, []), (1, .iload_n 1, 1, []), (2, .invokevirtual 105, 3, [998, 1000, 8, 101, 1001]), (5, .aload_n 0, 1, []), (6, .iload_n 2, 1, []), (7, .invokevirtual 112, 3, [1026, 1028, 9, 101, 1029]), (10, .aload_n 0, 1, []), (11, .getfield 26, 3, [368]), (14, .getfield 108, 3, [270]), (17, .iload_n 1, 1, []), (18, .iaload, 1, []), (19, .istore_n 3, 1, []), (20, .aload_n 0, 1, []), (21, .iload_n 3, 1, []), (22, .iload_n 2, 1, []), (23, .invokevirtual 184, 3, [1141, 1143, 14, 101, 1144]), (26, .aload_n 0, 1, []), (27, .iload_n 3, 1, []), (28, .iconst (-1), 1, []), (29, .if_icmp .eq 28, 3, []), (32, .aload_n 0, 1, []), (33, .getfield 26, 3, [368]), (36, .getfield 123, 3, [275]), (39, .iload_n 2, 1, []), (40, .invokevirtual 127, 3, [1053, 1054, 1055, 105, 1056]), (43, .aload_n 0, 1, []), (44, .getfield 26, 3, [368]), (47, .getfield 187, 3, [304]), (50, .if_icmp .lt 7, 3, []), (53, .iconst 1, 1, []), (54, .goto 4, 3, []), (57, .iconst 0, 1, []), (58, .invokevirtual 190, 3, [1146, 1148, 15, 101, 1149]), (61, .aload_n 0, 1, []), (62, .getfield 39, 3, [371]), (65, .aload_n 0, 1, []), (66, .getfield 26, 3, [368]), (69, .invokevirtual 194, 3, [411, 412, 413, 109, 414]), (72, .aload_n 0, 1, []), (73, .getfield 26, 3, [368]), (76, .getfield 123, 3, [275]), (79, .iload_n 2, 1, []), (80, .aload_n 0, 1, []), (81, .getfield 26, 3, [368]), (84, .getfield 187, 3, [304]), (87, .invokevirtual 197, 3, [1166, 1167, 1168, 105, 1169]), (90, .aload_n 0, 1, []), (91, .getfield 26, 3, [368]), (94, .getfield 123, 3, [275]), (97, .iload_n 3, 1, []), (98, .aload_n 0, 1, []), (99, .getfield 26, 3, [368]), (102, .getfield 187, 3, [304]), (105, .invokevirtual 200, 3, [1173, 1174, 1175, 105, 1176]), (108, .aload_n 0, 1, []), (109, .getfield 26, 3, [368]), (112, .getfield 108, 3, [270]), (115, .iload_n 1, 1, []), (116, .iload_n 2, 1, []), (117, .iastore, 1, []), (118, .aload_n 0, 1, []), (119, .getfield 26, 3, [368]), (122, .getfield 123, 3, [275]), (125, .iload_n 3, 1, []), (126, .invokevirtual 127, 3, [1053, 1054, 1055, 105, 1056]), (129, .ireturn, 1, [])]
def z_h127 : List (Nat × Nat × Nat × Nat × Nat × Nat × Nat) := []
def z_m128 : zMi := (RX11, yX11_buy, cX11_buy, 3, some .int, [])
def z_c128 : List zI := [(2, 0, 0, 0), (1, 1, 0, 0), (54, 166, 1, 8), (2, 0, 0, 0), (1, 2, 0, 0), (54, 167, 1, 8), (2, 0, 0, 0), (2, 0, 0, 0), (37, 8, 2, 0), (37, 1, 0, 0), (1, 1, 0, 0), (39, 0, 0, 0), (0, 0, 0, -1), (32, 25, 1, 0), (2, 0, 0, 0), (37, 8, 2, 0), (37, 1, 1, 0), (1, 2, 0, 0), (54, 16, 1, 0), (2, 0, 0, 0), (37, 8, 2, 0), (37, 1, 15, 0), (32, 25, 2, 0), (0, 0, 0, 1), (30, 26, 0, 0), (0, 0, 0, 0), (54, 172, 1, 8), (2, 0, 0, 0), (37, 8, 5, 0), (2, 0, 0, 0), (37, 8, 2, 0), (54, 62, 1, 5), (2, 0, 0, 0), (37, 8, 2, 0), (37, 1, 1, 0), (1, 2, 0, 0), (2, 0, 0, 0), (37, 8, 2, 0), (37, 1, 15, 0), (54, 17, 2, 0), (2, 0, 0, 0), (37, 8, 2, 0), (37, 1, 0, 0), (1, 1, 0, 0), (1, 2, 0, 0), (40, 0, 0, 0), (2, 0, 0, 0), (37, 8, 2, 0), (37, 1, 1, 0), (1, 2, 0, 0), (54, 16, 1, 0), (50, 0, 0, 0)]
def z_i128 : List zJ := [(0, .aload_n 0, 1, []), (1, .iload_n 1, 1, []), (2, .invokevirtual 105, 3, [998, 1000, 8, 101, 1001]), (5, .aload_n 0, 1, []), (6, .iload_n 2, 1, []), (7, .invokevirtual 112, 3, [1026, 1028, 9, 101, 1029]), (10, .aload_n 0, 1, []), (11, .aload_n 0, 1, []), (12, .getfield 26, 3, [368]), (15, .getfield 108, 3, [270]), (18, .iload_n 1, 1, []), (19, .iaload, 1, []), (20, .iconst (-1), 1, []), (21, .if_icmp .ne 28, 3, []), (24, .aload_n 0, 1, []), (25, .getfield 26, 3, [368]), (28, .getfield 123, 3, [275]), (31, .iload_n 2, 1, []), (32, .invokevirtual 127, 3, [1053, 1054, 1055, 105, 1056]), (35, .aload_n 0, 1, []), (36, .getfield 26, 3, [368]), (39, .getfield 187, 3, [304]), (42, .if_icmp .lt 7, 3, []), (45, .iconst 1, 1, []), (46, .goto 4, 3, []), (49, .iconst 0, 1, []), (50, .invokevirtual 190, 3, [1146, 1148, 15, 101, 1149]), (53, .aload_n 0, 1, []), (54, .getfield 39, 3, [371]), (57, .aload_n 0, 1, []), (58, .getfield 26, 3, [368]), (61, .invokevirtual 194, 3, [411, 412, 413, 109, 414]), (64, .aload_n 0, 1, []), (65, .getfield 26, 3, [368]), (68, .getfield 123, 3, [275]), (71, .iload_n 2, 1, []), (72, .aload_n 0, 1, []), (73, .getfield 26, 3, [368]), (76, .getfield 187, 3, [304]), (79, .invokevirtual 197, 3, [1166, 1167, 1168, 105, 1169]), (82, .aload_n 0, 1, []), (83, .getfield 26, 3, [368]), (86, .getfield 108, 3, [270]), (89, .iload_n 1, 1, []), (90, .iload_n 2, 1, []), (91, .iastore, 1, []), (92, .aload_n 0, 1, []), (93, .getfield 26, 3, [368]), (96, .getfield 123, 3, [275]), (99, .iload_n 2, 1, []), (100, .invokevirtual 127, 3, [1053, 1054, 1055, 105, 1056]), (103, .ireturn, 1, [])]
def z_h128 : List (Nat × Nat × Nat × Nat × Nat × Nat × Nat) := []
def z_m129 : zMi := (RX11, yX11_swap, cX11_swap, 5, some .int, [])
def z_c129 : List zI := [(2, 0, 0, 0), (1, 1, 0, 0), (54, 166, 1, 8), (2, 0, 0, 0), (1, 2, 0, 0), (54, 166, 1, 8), (2, 0, 0, 0), (1, 1, 0, 0), (1, 2, 0, 0), (54, 171, 2, 8), (2, 0, 0, 0), (37, 8, 2, 0), (37, 1, 0, 0), (1, 1, 0, 0), (39, 0, 0, 0), (4, 3, 0, 0), (2, 0, 0, 0), (37, 8, 2, 0), (37, 1, 0, 0), (1, 2, 0, 0), (39, 0, 0, 0), (4, 4, 0, 0), (2, 0, 0, 0), (1, 3, 0, 0), (0, 0, 0, -1), (32, 34, 0, 0), (1, 4, 0, 0), (0, 0, 0, -1), (32, 34, 0, 0), (1, 3, 0, 0), (1, 4, 0, 0), (32, 34, 0, 0), (0, 0, 0, 1), (30, 35, 0, 0), (0, 0, 0, 0), (54, 172, 1, 8), (2, 0, 0, 0), (37, 8, 5, 0), (2, 0, 0, 0), (37, 8, 2, 0), (54, 62, 1, 5), (2, 0, 0, 0), (37, 8, 2, 0), (37, 1, 0, 0), (1, 1, 0, 0), (1, 4, 0, 0), (40, 0, 0, 0), (2, 0, 0, 0), (37, 8, 2, 0), (37, 1, 0, 0), (1, 2, 0, 0), (1, 3, 0, 0), (40, 0, 0, 0), (1, 4, 0, 0), (50, 0, 0, 0)]
def z_i129 : List zJ := [(0, .aload_n 0, 1, []), (1, .iload_n 1, 1, []), (2, .invokevirtual 105, 3, [998, 1000, 8, 101, 1001]), (5, .aload_n 0, 1, []), (6, .iload_n 2, 1, []), (7, .invokevirtual 105, 3, [998, 1000, 8, 101, 1001]), (10, .aload_n 0, 1, []), (11, .iload_n 1, 1, []), (12, .iload_n 2, 1, []), (13, .invokevirtual 184, 3, [1141, 1143, 14, 101, 1144]), (16, .aload_n 0, 1, []), (17, .getfield 26, 3, [368]), (20, .getfield 108, 3, [270]), (23, .iload_n 1, 1, []), (24, .iaload, 1, []), (25, .istore_n 3, 1, []), (26, .aload_n 0, 1, []), (27, .getfield 26, 3, [368]), (30, .getfield 108, 3, [270]), (33, .iload_n 2, 1, []), (34, .iaload, 1, []), (35, .istore 4, 2, []), (37, .aload_n 0, 1, []), (38, .iload_n 3, 1, []), (39, .iconst (-1), 1, []), (40, .if_icmp .eq 19, 3, []), (43, .iload 4, 2, []), (45, .iconst (-1), 1, []), (46, .if_icmp .eq 13, 3, []), (49, .iload_n 3, 1, []), (50, .iload 4, 2, []), (52, .if_icmp .eq 7, 3, []), (55, .iconst 1, 1, []), (56, .goto 4, 3, []), (59, .iconst 0, 1, []), (60, .invokevirtual 190, 3, [1146, 1148, 15, 101, 1149]), (63, .aload_n 0, 1, []), (64, .getfield 39, 3, [371]), (67, .aload_n 0, 1, []), (68, .getfield 26, 3, [368]), (71, .invokevirtual 194, 3, [411, 412, 413, 109, 414]), (74, .aload_n 0, 1, []), (75, .getfield 26, 3, [368]), (78, .getfield 108, 3, [270]), (81, .iload_n 1, 1, []), (82, .iload 4, 2, []), (84, .iastore, 1, []), (85, .aload_n 0, 1, []), (86, .getfield 26, 3, [368]), (89, .getfield 108, 3, [270]), (92, .iload_n 2, 1, []), (93, .iload_n 3, 1, []), (94, .iastore, 1, []), (95, .iload 4, 2, []), (97, .ireturn, 1, [])]
def z_h129 : List (Nat × Nat × Nat × Nat × Nat × Nat × Nat) := []
def z_m130 : zMi := (RX11, yX11_free, cX11_free, 3, some .int, [])
def z_c130 : List zI := [(2, 0, 0, 0), (1, 1, 0, 0), (54, 166, 1, 8), (2, 0, 0, 0), (37, 8, 2, 0), (37, 1, 0, 0), (1, 1, 0, 0), (39, 0, 0, 0), (4, 2, 0, 0), (2, 0, 0, 0), (1, 2, 0, 0), (0, 0, 0, -1), (32, 15, 0, 0), (0, 0, 0, 1), (30, 16, 0, 0), (0, 0, 0, 0), (54, 172, 1, 8), (2, 0, 0, 0), (37, 8, 5, 0), (2, 0, 0, 0), (37, 8, 2, 0), (54, 62, 1, 5), (2, 0, 0, 0), (37, 8, 2, 0), (37, 1, 0, 0), (1, 1, 0, 0), (0, 0, 0, -1), (40, 0, 0, 0), (1, 2, 0, 0), (50, 0, 0, 0)]
def z_i130 : List zJ := [(0, .aload_n 0, 1, []), (1, .iload_n 1, 1, []), (2, .invokevirtual 105, 3, [998, 1000, 8, 101, 1001]), (5, .aload_n 0, 1, []), (6, .getfield 26, 3, [368]), (9, .getfield 108, 3, [270]), (12, .iload_n 1, 1, []), (13, .iaload, 1, []), (14, .istore_n 2, 1, []), (15, .aload_n 0, 1, []), (16, .iload_n 2, 1, []), (17, .iconst (-1), 1, []), (18, .if_icmp .eq 7, 3, []), (21, .iconst 1, 1, []), (22, .goto 4, 3, []), (25, .iconst 0, 1, []), (26, .invokevirtual 190, 3, [1146, 1148, 15, 101, 1149]), (29, .aload_n 0, 1, []), (30, .getfield 39, 3, [371]), (33, .aload_n 0, 1, []), (34, .getfield 26, 3, [368]), (37, .invokevirtual 194, 3, [411, 412, 413, 109, 414]), (40, .aload_n 0, 1, []), (41, .getfield 26, 3, [368]), (44, .getfield 108, 3, [270]), (47, .iload_n 1, 1, []), (48, .iconst (-1), 1, []), (49, .iastore, 1, []), (50, .iload_n 2, 1, []), (51, .ireturn, 1, [])]
def z_h130 : List (Nat × Nat × Nat × Nat × Nat × Nat × Nat) := []
def z_m131 : zMi := (RX11, yX11_leave, cX11_leave, 2, some .int, [])
def z_c131 : List zI := [(2, 0, 0, 0), (1, 1, 0, 0), (54, 168, 1, 8), (2, 0, 0, 0), (2, 0, 0, 0), (37, 8, 2, 0), (37, 1, 2, 0), (37, 7, 0, 0), (1, 1, 0, 0), (39, 0, 0, 0), (2, 0, 0, 0), (37, 8, 2, 0), (54, 27, 0, 1), (32, 22, 1, 0), (2, 0, 0, 0), (37, 8, 2, 0), (37, 1, 2, 0), (1, 1, 0, 0), (54, 105, 1, 7), (31, 22, 1, 0), (0, 0, 0, 1), (30, 23, 0, 0), (0, 0, 0, 0), (54, 172, 1, 8), (2, 0, 0, 0), (37, 8, 5, 0), (2, 0, 0, 0), (37, 8, 2, 0), (54, 62, 1, 5), (2, 0, 0, 0), (37, 8, 2, 0), (37, 1, 2, 0), (1, 1, 0, 0), (54, 106, 1, 7), (2, 0, 0, 0), (37, 8, 2, 0), (37, 1, 2, 0), (54, 108, 0, 7), (50, 0, 0, 0)]
def z_i131 : List zJ := [(0, .aload_n 0, 1, []), (1, .iload_n 1, 1, []), (2, .invokevirtual 162, 3, [1115, 1117, 13, 101, 1118]), (5, .aload_n 0, 1, []), (6, .aload_n 0, 1, []), (7, .getfield 26, 3, [368]), (10, .getfield 165, 3, [278]), (13, .getfield 169, 3, [230]), (16, .iload_n 1, 1, []), (17, .iaload, 1, []), (18, .aload_n 0, 1, []), (19, .getfield 26, 3, [368]), (22, .invokevirtual 203, 3, [573, 574, 575, 104, 576]), (25, .if_icmp .ne 21, 3, []), (28, .aload_n 0, 1, []), (29, .getfield 26, 3, [368]), (32, .getfield 165, 3, [278]), (35, .iload_n 1, 1, []), (36, .invokevirtual 177, 3, [1124, 1125, 1126, 106, 1127]), (39, .ifCond .ne 7, 3, []), (42, .iconst 1, 1, []), (43, .goto 4, 3, []), (46, .iconst 0, 1, []), (47, .invokevirtual 190, 3, [1146, 1148, 15, 101, 1149]), (50, .aload_n 0, 1, []), (51, .getfield 39, 3, [371]), (54, .aload_n 0, 1, []), (55, .getfield 26, 3, [368]), (58, .invokevirtual 194, 3, [411, 412, 413, 109, 414]), (61, .aload_n 0, 1, []), (62, .getfield 26, 3, [368]), (65, .getfield 165, 3, [278]), (68, .iload_n 1, 1, []), (69, .invokevirtual 207, 3, [1206, 771, 772, 106, 773]), (72, .aload_n 0, 1, []), (73, .getfield 26, 3, [368]), (76, .getfield 165, 3, [278]), (79, .invokevirtual 210, 3, [1207, 1084, 1085, 106, 1086]), (82, .ireturn, 1, [])]
def z_h131 : List (Nat × Nat × Nat × Nat × Nat × Nat × Nat) := []
def z_m132 : zMi := (RX11, yX11_fetch, cX11_fetch, 2, some .int, [])
def z_c132 : List zI := [(2, 0, 0, 0), (1, 1, 0, 0), (54, 168, 1, 8), (2, 0, 0, 0), (2, 0, 0, 0), (37, 8, 2, 0), (37, 1, 2, 0), (37, 7, 0, 0), (1, 1, 0, 0), (39, 0, 0, 0), (2, 0, 0, 0), (37, 8, 2, 0), (54, 27, 0, 1), (32, 22, 1, 0), (2, 0, 0, 0), (37, 8, 2, 0), (37, 1, 2, 0), (1, 1, 0, 0), (54, 105, 1, 7), (31, 22, 0, 0), (0, 0, 0, 1), (30, 23, 0, 0), (0, 0, 0, 0), (54, 172, 1, 8), (2, 0, 0, 0), (37, 8, 5, 0), (2, 0, 0, 0), (37, 8, 2, 0), (54, 62, 1, 5), (2, 0, 0, 0), (37, 8, 2, 0), (37, 1, 2, 0), (1, 1, 0, 0), (54, 107, 1, 7), (2, 0, 0, 0), (37, 8, 2, 0), (37, 1, 2, 0), (54, 108, 0, 7), (50, 0, 0, 0)]
def z_i132 : List zJ := [(0, .aload_n 0, 1, []), (1, .iload_n 1, 1, []), (2, .invokevirtual 162, 3, [1115, 1117, 13, 101, 1118]), (5, .aload_n 0, 1, []), (6, .aload_n 0, 1, []), (7, .getfield 26, 3, [368]), (10, .getfield 165, 3, [278]), (13, .getfield 169, 3, [230]), (16, .iload_n 1, 1, []), (17, .iaload, 1, []), (18, .aload_n 0, 1, []), (19, .getfield 26, 3, [368]), (22, .invokevirtual 203, 3, [573, 574, 575, 104, 576]), (25, .if_icmp .ne 21, 3, []), (28, .aload_n 0, 1, []), (29, .getfield 26, 3, [368]), (32, .getfield 165, 3, [278]), (35, .iload_n 1, 1, []), (36, .invokevirtual 177, 3, [1124, 1125, 1126, 106, 1127]), (39, .ifCond .eq 7, 3, []), (42, .iconst 1, 1, []), (43, .goto 4, 3, []), (46, .iconst 0, 1, []), (47, .invokevirtual 190, 3, [1146, 1148, 15, 101, 1149]), (50, .aload_n 0, 1, []), (51, .getfield 39, 3, [371]), (54, .aload_n 0, 1, []), (55, .getfield 26, 3, [368]), (58, .invokevirtual 194, 3, [411, 412, 413, 109, 414]), (61, .aload_n 0, 1, []), (62, .getfield 26, 3, [368]), (65, .getfield 165, 3, [278]), (68, .iload_n 1, 1, []), (69, .invokevirtual 213, 3, [1215, 1216, 1217, 106, 1218]), (72, .aload_n 0, 1, []), (73, .getfield 26, 3, [368]), (76, .getfield 165, 3, [278]), (79, .invokevirtual 210, 3, [1207, 1084, 1085, 106, 1086]), (82, .ireturn, 1, [])]
def z_h132 : List (Nat × Nat × Nat × Nat × Nat × Nat × Nat) := []
def z_m133 : zMi := (RX11, yX11_quiet, cX11_quiet, 2, some .int, [])
def z_c133 : List zI := [(2, 0, 0, 0), (37, 8, 2, 0), (54, 27, 0, 1), (4, 1, 0, 0), (2, 0, 0, 0), (1, 1, 0, 0), (0, 0, 0, -1), (32, 23, 0, 0), (2, 0, 0, 0), (37, 8, 2, 0), (37, 1, 11, 0), (31, 23, 5, 0), (2, 0, 0, 0), (37, 8, 2, 0), (37, 1, 1, 0), (1, 1, 0, 0), (54, 16, 1, 0), (2, 0, 0, 0), (37, 8, 2, 0), (37, 1, 11, 0), (32, 23, 2, 0), (0, 0, 0, 1), (30, 24, 0, 0), (0, 0, 0, 0), (54, 172, 1, 8), (2, 0, 0, 0), (37, 8, 5, 0), (2, 0, 0, 0), (37, 8, 2, 0), (54, 62, 1, 5), (2, 0, 0, 0), (37, 8, 2, 0), (37, 1, 1, 0), (1, 1, 0, 0), (2, 0, 0, 0), (37, 8, 2, 0), (37, 1, 11, 0), (54, 17, 2, 0), (2, 0, 0, 0), (37, 8, 2, 0), (0, 0, 0, 0), (38, 1, 11, 0), (2, 0, 0, 0), (37, 8, 2, 0), (37, 1, 1, 0), (1, 1, 0, 0), (54, 16, 1, 0), (50, 0, 0, 0)]
def z_i133 : List zJ := [(0, .aload_n 0, 1, []), (1, .getfield 26, 3, [368]), (4, .invokevirtual 203, 3, [573, 574, 575, 104, 576]), (7, .istore_n 1, 1, []), (8, .aload_n 0, 1, []), (9, .iload_n 1, 1, []), (10, .iconst (-1), 1, []), (11, .if_icmp .eq 38, 3, []), (14, .aload_n 0, 1, []), (15, .getfield 26, 3, [368]), (18, .getfield 216, 3, [295]), (21, .ifCond .le 28, 3, []), (24, .aload_n 0, 1, []), (25, .getfield 26, 3, [368]), (28, .getfield 123, 3, [275]), (31, .iload_n 1, 1, []), (32, .invokevirtual 127, 3, [1053, 1054, 1055, 105, 1056]), (35, .aload_n 0, 1, []), (36, .getfield 26, 3, [368]), (39, .getfield 216, 3, [295]), (42, .if_icmp .lt 7, 3, []), (45, .iconst 1, 1, []), (46, .goto 4, 3, []), (49, .iconst 0, 1, []), (50, .invokevirtual 190, 3, [1146, 1148, 15, 101, 1149]), (53, .aload_n 0, 1, []), (54, .getfield 39, 3, [371]), (57, .aload_n 0, 1, []), (58, .getfield 26, 3, [368]), (61, .invokevirtual 194, 3, [411, 412, 413, 109, 414]), (64, .aload_n 0, 1, []), (65, .getfield 26, 3, [368]), (68, .getfield 123, 3, [275]), (71, .iload_n 1, 1, []), (72, .aload_n 0, 1, []), (73, .getfield 26, 3, [368]), (76, .getfield 216, 3, [295]), (79, .invokevirtual 197, 3, [1166, 1167, 1168, 105, 1169]), (82, .aload_n 0, 1, []), (83, .getfield 26, 3, [368]), (86, .iconst 0, 1, []), (87, .putfield 216, 3, [295]), (90, .aload_n 0, 1, []), (91, .getfield 26, 3, [368]), (94, .getfield 123, 3, [275]), (97, .iload_n 1, 1, []), (98, .invokevirtual 127, 3, [1053, 1054, 1055, 105, 1056]), (101, .ireturn, 1, [])]
def z_h133 : List (Nat × Nat × Nat × Nat × Nat × Nat × Nat) := []
def z_m134 : zMi := (RX11, yX11_dust, cX11_dust, 2, some .int, [])
def z_c134 : List zI := [(2, 0, 0, 0), (37, 8, 2, 0), (37, 1, 10, 0), (4, 1, 0, 0), (2, 0, 0, 0), (37, 8, 5, 0), (2, 0, 0, 0), (37, 8, 2, 0), (54, 62, 1, 5), (2, 0, 0, 0), (37, 8, 2, 0), (0, 0, 0, 0), (38, 1, 10, 0), (1, 1, 0, 0), (50, 0, 0, 0)]
def z_i134 : List zJ := [(0, .aload_n 0, 1, []), (1, .getfield 26, 3, [368]), (4, .getfield 219, 3, [293]), (7, .istore_n 1, 1, []), (8, .aload_n 0, 1, []), (9, .getfield 39, 3, [371]), (12, .aload_n 0, 1, []), (13, .getfield 26, 3, [368]), (16, .invokevirtual 194, 3, [411, 412, 413, 109, 414]), (19, .aload_n 0, 1, []), (20, .getfield 26, 3, [368]), (23, .iconst 0, 1, []), (24, .putfield 219, 3, [293]), (27, .iload_n 1, 1, []), (28, .ireturn, 1, [])]
def z_h134 : List (Nat × Nat × Nat × Nat × Nat × Nat × Nat) := []
def z_m135 : zMi := (RX11, yX11_hours, cX11_hours, 4, some .int, [])
def z_c135 : List zI := [(2, 0, 0, 0), (1, 1, 0, 0), (0, 0, 0, 1), (0, 0, 0, 100), (54, 170, 3, 8), (2, 0, 0, 0), (37, 8, 5, 0), (2, 0, 0, 0), (37, 8, 2, 0), (54, 62, 1, 5), (0, 0, 0, 0), (4, 2, 0, 0), (0, 0, 0, 0), (4, 3, 0, 0), (1, 3, 0, 0), (1, 1, 0, 0), (32, 26, 3, 0), (1, 2, 0, 0), (2, 0, 0, 0), (37, 8, 2, 0), (0, 0, 0, 1), (54, 34, 1, 1), (8, 0, 0, 0), (4, 2, 0, 0), (7, 3, 0, 1), (30, 14, 0, 0), (1, 2, 0, 0), (50, 0, 0, 0)]
def z_i135 : List zJ := [(0, .aload_n 0, 1, []), (1, .iload_n 1, 1, []), (2, .iconst 1, 1, []), (3, .bipush 100, 2, []), (5, .invokevirtual 222, 3, [1233, 1235, 16, 101, 1236]), (8, .aload_n 0, 1, []), (9, .getfield 39, 3, [371]), (12, .aload_n 0, 1, []), (13, .getfield 26, 3, [368]), (16, .invokevirtual 194, 3, [411, 412, 413, 109, 414]), (19, .iconst 0, 1, []), (20, .istore_n 2, 1, []), (21, .iconst 0, 1, []), (22, .istore_n 3, 1, []), (23, .iload_n 3, 1, []), (24, .iload_n 1, 1, []), (25, .if_icmp .ge 20, 3, []), (28, .iload_n 2, 1, []), (29, .aload_n 0, 1, []), (30, .getfield 26, 3, [368]), (33, .iconst 1, 1, []), (34, .invokevirtual 226, 3, [1238, 1239, 1240, 104, 1241]), (37, .iadd, 1, []), (38, .istore_n 2, 1, []), (39, .iinc 3 1, 3, []), (42, .goto (-19), 3, []), (45, .iload_n 2, 1, []), (46, .ireturn, 1, [])]
def z_h135 : List (Nat × Nat × Nat × Nat × Nat × Nat × Nat) := []
def z_m136 : zMi := (RX11, yX11_changes, cX11_changes, 1, some .int, [])
def z_c136 : List zI := [(2, 0, 0, 0), (37, 8, 2, 0), (55, 69, 1, 0), (50, 0, 0, 0)]
def z_i136 : List zJ := [(0, .aload_n 0, 1, []), (1, .getfield 26, 3, [368]), (4, .invokestatic 230, 3, [444, 445, 127, 446]), (7, .ireturn, 1, [])]
def z_h136 : List (Nat × Nat × Nat × Nat × Nat × Nat × Nat) := []
def z_m137 : zMi := (RX11, yX11_met, cX11_met, 3, some .int, [])
def z_c137 : List zI := [(2, 0, 0, 0), (1, 1, 0, 0), (54, 167, 1, 8), (2, 0, 0, 0), (1, 2, 0, 0), (54, 167, 1, 8), (2, 0, 0, 0), (1, 1, 0, 0), (1, 2, 0, 0), (54, 171, 2, 8), (2, 0, 0, 0), (37, 8, 2, 0), (1, 1, 0, 0), (1, 2, 0, 0), (55, 70, 3, 0), (50, 0, 0, 0)]
def z_i137 : List zJ := [(0, .aload_n 0, 1, []), (1, .iload_n 1, 1, []), (2, .invokevirtual 112, 3, [1026, 1028, 9, 101, 1029]), (5, .aload_n 0, 1, []), (6, .iload_n 2, 1, []), (7, .invokevirtual 112, 3, [1026, 1028, 9, 101, 1029]), (10, .aload_n 0, 1, []), (11, .iload_n 1, 1, []), (12, .iload_n 2, 1, []), (13, .invokevirtual 184, 3, [1141, 1143, 14, 101, 1144]), (16, .aload_n 0, 1, []), (17, .getfield 26, 3, [368]), (20, .iload_n 1, 1, []), (21, .iload_n 2, 1, []), (22, .invokestatic 234, 3, [1283, 550, 127, 551]), (25, .ireturn, 1, [])]
def z_h137 : List (Nat × Nat × Nat × Nat × Nat × Nat × Nat) := []
def z_m138 : zMi := (RX11, yX11_gaps, cX11_gaps, 1, some .int, [])
def z_c138 : List zI := [(2, 0, 0, 0), (37, 8, 2, 0), (55, 71, 1, 0), (50, 0, 0, 0)]
def z_i138 : List zJ := [(0, .aload_n 0, 1, []), (1, .getfield 26, 3, [368]), (4, .invokestatic 238, 3, [458, 459, 127, 460]), (7, .ireturn, 1, [])]
def z_h138 : List (Nat × Nat × Nat × Nat × Nat × Nat × Nat) := []
def z_m139 : zMi := (RX11, yX11_deal, cX11_deal, 1, some .int, [])
def z_c139 : List zI := [(2, 0, 0, 0), (37, 8, 2, 0), (55, 76, 1, 0), (50, 0, 0, 0)]
def z_i139 : List zJ := [(0, .aload_n 0, 1, []), (1, .getfield 26, 3, [368]), (4, .invokestatic 241, 3, [474, 475, 127, 476]), (7, .ireturn, 1, [])]
def z_h139 : List (Nat × Nat × Nat × Nat × Nat × Nat × Nat) := []
def z_m140 : zMi := (RX11, yX11_trade, cX11_trade, 1, some .int, [])
def z_c140 : List zI := [(2, 0, 0, 0), (37, 8, 2, 0), (55, 77, 1, 0), (50, 0, 0, 0)]
def z_i140 : List zJ := [(0, .aload_n 0, 1, []), (1, .getfield 26, 3, [368]), (4, .invokestatic 244, 3, [492, 493, 127, 494]), (7, .ireturn, 1, [])]
def z_h140 : List (Nat × Nat × Nat × Nat × Nat × Nat × Nat) := []
def z_m141 : zMi := (RX11, yX11_fewest, cX11_fewest, 1, some .int, [])
def z_c141 : List zI := [(2, 0, 0, 0), (37, 8, 2, 0), (55, 80, 1, 0), (50, 0, 0, 0)]
def z_i141 : List zJ := [(0, .aload_n 0, 1, []), (1, .getfield 26, 3, [368]), (4, .invokestatic 247, 3, [513, 514, 127, 515]), (7, .ireturn, 1, [])]
def z_h141 : List (Nat × Nat × Nat × Nat × Nat × Nat × Nat) := []
def z_m142 : zMi := (RX11, yX11_worth, cX11_worth, 2, some .int, [])
def z_c142 : List zI := [(2, 0, 0, 0), (37, 8, 2, 0), (1, 1, 0, 0), (55, 110, 2, 0), (50, 0, 0, 0)]
def z_i142 : List zJ := [(0, .aload_n 0, 1, []), (1, .getfield 26, 3, [368]), (4, .iload_n 1, 1, []), (5, .invokestatic 250, 3, [521, 522, 129, 523]), (8, .ireturn, 1, [])]
def z_h142 : List (Nat × Nat × Nat × Nat × Nat × Nat × Nat) := []
def z_m143 : zMi := (RX11, yX11_part, cX11_part, 3, some .int, [])
def z_c143 : List zI := [(2, 0, 0, 0), (1, 1, 0, 0), (54, 167, 1, 8), (2, 0, 0, 0), (1, 2, 0, 0), (0, 0, 0, 0), (0, 0, 0, 999), (54, 170, 3, 8), (2, 0, 0, 0), (37, 8, 2, 0), (1, 1, 0, 0), (1, 2, 0, 0), (55, 111, 3, 0), (50, 0, 0, 0)]
def z_i143 : List zJ := [(0, .aload_n 0, 1, []), (1, .iload_n 1, 1, []), (2, .invokevirtual 112, 3, [1026, 1028, 9, 101, 1029]), (5, .aload_n 0, 1, []), (6, .iload_n 2, 1, []), (7, .iconst 0, 1, []), (8, .sipush 999, 3, []), (11, .invokevirtual 222, 3, [1233, 1235, 16, 101, 1236]), (14, .aload_n 0, 1, []), (15, .getfield 26, 3, [368]), (18, .iload_n 1, 1, []), (19, .iload_n 2, 1, []), (20, .invokestatic 255, 3, [1291, 1292, 129, 1293]), (23, .ireturn, 1, [])]
def z_h143 : List (Nat × Nat × Nat × Nat × Nat × Nat × Nat) := []
def z_m144 : zMi := (RX11, yX11_corner, cX11_corner, 2, some .int, [])
def z_c144 : List zI := [(2, 0, 0, 0), (1, 1, 0, 0), (54, 167, 1, 8), (2, 0, 0, 0), (37, 8, 2, 0), (1, 1, 0, 0), (55, 81, 2, 0), (50, 0, 0, 0)]
def z_i144 : List zJ := [(0, .aload_n 0, 1, []), (1, .iload_n 1, 1, []), (2, .invokevirtual 112, 3, [1026, 1028, 9, 101, 1029]), (5, .aload_n 0, 1, []), (6, .getfield 26, 3, [368]), (9, .iload_n 1, 1, []), (10, .invokestatic 258, 3, [1307, 1308, 127, 1309]), (13, .ireturn, 1, [])]
def z_h144 : List (Nat × Nat × Nat × Nat × Nat × Nat × Nat) := []
def z_m145 : zMi := (RX11, yX11_bids, cX11_bids, 4, some .int, [])
def z_c145 : List zI := [(2, 0, 0, 0), (1, 1, 0, 0), (54, 167, 1, 8), (2, 0, 0, 0), (1, 2, 0, 0), (54, 167, 1, 8), (2, 0, 0, 0), (1, 3, 0, 0), (54, 166, 1, 8), (2, 0, 0, 0), (1, 1, 0, 0), (1, 2, 0, 0), (54, 171, 2, 8), (2, 0, 0, 0), (37, 8, 2, 0), (1, 1, 0, 0), (1, 2, 0, 0), (1, 3, 0, 0), (55, 113, 4, 0), (50, 0, 0, 0)]
def z_i145 : List zJ := [(0, .aload_n 0, 1, []), (1, .iload_n 1, 1, []), (2, .invokevirtual 112, 3, [1026, 1028, 9, 101, 1029]), (5, .aload_n 0, 1, []), (6, .iload_n 2, 1, []), (7, .invokevirtual 112, 3, [1026, 1028, 9, 101, 1029]), (10, .aload_n 0, 1, []), (11, .iload_n 3, 1, []), (12, .invokevirtual 105, 3, [998, 1000, 8, 101, 1001]), (15, .aload_n 0, 1, []), (16, .iload_n 1, 1, []), (17, .iload_n 2, 1, []), (18, .invokevirtual 184, 3, [1141, 1143, 14, 101, 1144]), (21, .aload_n 0, 1, []), (22, .getfield 26, 3, [368]), (25, .iload_n 1, 1, []), (26, .iload_n 2, 1, []), (27, .iload_n 3, 1, []), (28, .invokestatic 261, 3, [1324, 1325, 129, 1326]), (31, .ireturn, 1, [])]
def z_h145 : List (Nat × Nat × Nat × Nat × Nat × Nat × Nat) := []
def z_m146 : zMi := (RX11, yX11_who, cX11_who, 4, some .int, [])
def z_c146 : List zI := [(2, 0, 0, 0), (54, 173, 0, 8), (4, 2, 0, 0), (1, 2, 0, 0), (31, 13, 0, 0), (1, 1, 0, 0), (31, 10, 0, 0), (2, 0, 0, 0), (54, 175, 0, 8), (30, 14, 0, 0), (2, 0, 0, 0), (54, 174, 0, 8), (30, 14, 0, 0), (0, 0, 0, -1), (4, 3, 0, 0), (2, 0, 0, 0), (37, 8, 0, 0), (0, 0, 0, 0), (38, 6, 1, 0), (1, 2, 0, 0), (31, 26, 1, 0), (62, 0, 3, 0), (99, 0, 0, 0), (99, 0, 0, 0), (99, 0, 0, 0), (99, 0, 0, 0), (1, 3, 0, 0), (50, 0, 0, 0)]
def z_i146 : List zJ := [(0, .aload_n 0, 1, []), (1, .invokevirtual 265, 3, [1341, 1343, 21, 101, 1344]), (4, .istore_n 2, 1, []), (5, .iload_n 2, 1, []), (6, .ifCond .eq 21, 3, []), (9, .iload_n 1, 1, []), (10, .ifCond .eq 10, 3, []), (13, .aload_n 0, 1, []), (14, .invokevirtual 269, 3, [1346, 1348, 22, 101, 1349]), (17, .goto 11, 3, []), (20, .aload_n 0, 1, []), (21, .invokevirtual 272, 3, [1352, 1354, 23, 101, 1355]), (24, .goto 4, 3, []), (27, .iconst (-1), 1, []), (28, .istore_n 3, 1, []), (29, .aload_n 0, 1, []), (30, .getfield 10, 3, [366]), (33, .iconst 0, 1, []), (34, .putfield 51, 3, [146]), (37, .iload_n 2, 1, []), (38, .ifCond .ne 14, 3, []), (41, .new 68, 3, [796, 121, 275, 72]), (44, .dup, 1, []), (45, .ldc_w 275, 3, []), (48, .invokespecial 72, 3, []), (51, .athrow, 1, []), (52, .iload_n 3, 1, []), (53, .ireturn, 1, [])]
def z_h146 : List (Nat × Nat × Nat × Nat × Nat × Nat × Nat) := []
def z_m147 : zMi := (RX11, yX11_common, cX11_common, 1, some .int, [])
def z_c147 : List zI := [(2, 0, 0, 0), (37, 8, 2, 0), (37, 1, 1, 0), (54, 21, 0, 0), (50, 0, 0, 0)]
def z_i147 : List zJ := [(0, .aload_n 0, 1, []), (1, .getfield 26, 3, [368]), (4, .getfield 123, 3, [275]), (7, .invokevirtual 277, 3, [533, 534, 535, 105, 536]), (10, .ireturn, 1, [])]
def z_h147 : List (Nat × Nat × Nat × Nat × Nat × Nat × Nat) := []
def z_m148 : zMi := (RX11, yX11_lovers, cX11_lovers, 1, some .int, [])
def z_c148 : List zI := [(2, 0, 0, 0), (37, 8, 2, 0), (55, 72, 1, 0), (50, 0, 0, 0)]
def z_i148 : List zJ := [(0, .aload_n 0, 1, []), (1, .getfield 26, 3, [368]), (4, .invokestatic 280, 3, [546, 547, 127, 548]), (7, .ireturn, 1, [])]
def z_h148 : List (Nat × Nat × Nat × Nat × Nat × Nat × Nat) := []
def z_m149 : zMi := (RX11, yX11_lesson, cX11_lesson, 2, some .int, [])
def z_c149 : List zI := [(2, 0, 0, 0), (1, 1, 0, 0), (0, 0, 0, 1), (0, 0, 0, 24), (54, 170, 3, 8), (2, 0, 0, 0), (37, 8, 2, 0), (1, 1, 0, 0), (55, 73, 2, 0), (50, 0, 0, 0)]
def z_i149 : List zJ := [(0, .aload_n 0, 1, []), (1, .iload_n 1, 1, []), (2, .iconst 1, 1, []), (3, .bipush 24, 2, []), (5, .invokevirtual 222, 3, [1233, 1235, 16, 101, 1236]), (8, .aload_n 0, 1, []), (9, .getfield 26, 3, [368]), (12, .iload_n 1, 1, []), (13, .invokestatic 283, 3, [1365, 1366, 127, 1367]), (16, .ireturn, 1, [])]
def z_h149 : List (Nat × Nat × Nat × Nat × Nat × Nat × Nat) := []
def z_m150 : zMi := (RX11, yX11_widows, cX11_widows, 1, some .int, [])
def z_c150 : List zI := [(2, 0, 0, 0), (37, 8, 2, 0), (55, 75, 1, 0), (50, 0, 0, 0)]
def z_i150 : List zJ := [(0, .aload_n 0, 1, []), (1, .getfield 26, 3, [368]), (4, .invokestatic 286, 3, [559, 560, 127, 561]), (7, .ireturn, 1, [])]
def z_h150 : List (Nat × Nat × Nat × Nat × Nat × Nat × Nat) := []
def z_m151 : zMi := (RX11, yX11_ahead, cX11_ahead, 4, some .int, [])
def z_c151 : List zI := [(2, 0, 0, 0), (1, 1, 0, 0), (0, 0, 0, 0), (0, 0, 0, 200), (54, 170, 3, 8), (2, 0, 0, 0), (1, 2, 0, 0), (0, 0, 0, 2), (54, 169, 2, 8), (2, 0, 0, 0), (37, 8, 3, 0), (2, 0, 0, 0), (37, 8, 2, 0), (54, 23, 1, 1), (0, 0, 0, 0), (4, 3, 0, 0), (1, 3, 0, 0), (1, 1, 0, 0), (32, 26, 3, 0), (2, 0, 0, 0), (37, 8, 3, 0), (0, 0, 0, 0), (54, 34, 1, 1), (29, 0, 0, 0), (7, 3, 0, 1), (30, 16, 0, 0), (1, 2, 0, 0), (36, 0, 0, 0), (2, 0, 0, 0), (37, 8, 3, 0), (37, 1, 9, 0), (50, 0, 0, 0), (2, 0, 0, 0), (37, 8, 3, 0), (37, 1, 10, 0), (50, 0, 0, 0), (2, 0, 0, 0), (37, 8, 3, 0), (54, 27, 0, 1), (50, 0, 0, 0)]
def z_i151 : List zJ := [(0, .aload_n 0, 1, []), (1, .iload_n 1, 1, []), (2, .iconst 0, 1, []), (3, .sipush 200, 3, []), (6, .invokevirtual 222, 3, [1233, 1235, 16, 101, 1236]), (9, .aload_n 0, 1, []), (10, .iload_n 2, 1, []), (11, .iconst 2, 1, []), (12, .invokevirtual 115, 3, [1032, 1034, 10, 101, 1035]), (15, .aload_n 0, 1, []), (16, .getfield 30, 3, [369]), (19, .aload_n 0, 1, []), (20, .getfield 26, 3, [368]), (23, .invokevirtual 58, 3, [598, 416, 417, 104, 418]), (26, .iconst 0, 1, []), (27, .istore_n 3, 1, []), (28, .iload_n 3, 1, []), (29, .iload_n 1, 1, []), (30, .if_icmp .ge 18, 3, []), (33, .aload_n 0, 1, []), (34, .getfield 30, 3, [369]), (37, .iconst 0, 1, []), (38, .invokevirtual 226, 3, [1238, 1239, 1240, 104, 1241]), (41, .pop, 1, []), (42, .iinc 3 1, 3, []), (45, .goto (-17), 3, []), (48, .iload_n 2, 1, []), (49, .lookupswitch 43 #[(0, 27), (1, 35)], 27, []), (76, .aload_n 0, 1, []), (77, .getfield 30, 3, [369]), (80, .getfield 289, 3, [291]), (83, .ireturn, 1, []), (84, .aload_n 0, 1, []), (85, .getfield 30, 3, [369]), (88, .getfield 219, 3, [293]), (91, .ireturn, 1, []), (92, .aload_n 0, 1, []), (93, .getfield 30, 3, [369]), (96, .invokevirtual 203, 3, [573, 574, 575, 104, 576]), (99, .ireturn, 1, [])]
def z_h151 : List (Nat × Nat × Nat × Nat × Nat × Nat × Nat) := []
def z_m152 : zMi := (RX11, yX11_dusty, cX11_dusty, 3, some .int, [])
def z_c152 : List zI := [(2, 0, 0, 0), (1, 1, 0, 0), (0, 0, 0, 1), (0, 0, 0, 99), (54, 170, 3, 8), (2, 0, 0, 0), (37, 8, 3, 0), (2, 0, 0, 0), (37, 8, 2, 0), (54, 23, 1, 1), (0, 0, 0, 0), (4, 2, 0, 0), (1, 2, 0, 0), (0, 0, 0, 200), (32, 29, 4, 0), (2, 0, 0, 0), (37, 8, 3, 0), (37, 1, 10, 0), (1, 1, 0, 0), (32, 22, 2, 0), (1, 2, 0, 0), (50, 0, 0, 0), (2, 0, 0, 0), (37, 8, 3, 0), (0, 0, 0, 0), (54, 34, 1, 1), (29, 0, 0, 0), (7, 2, 0, 1), (30, 12, 0, 0), (0, 0, 0, -1), (50, 0, 0, 0)]
def z_i152 : List zJ := [(0, .aload_n 0, 1, []), (1, .iload_n 1, 1, []), (2, .iconst 1, 1, []), (3, .bipush 99, 2, []), (5, .invokevirtual 222, 3, [1233, 1235, 16, 101, 1236]), (8, .aload_n 0, 1, []), (9, .getfield 30, 3, [369]), (12, .aload_n 0, 1, []), (13, .getfield 26, 3, [368]), (16, .invokevirtual 58, 3, [598, 416, 417, 104, 418]), (19, .iconst 0, 1, []), (20, .istore_n 2, 1, []), (21, .iload_n 2, 1, []), (22, .sipush 200, 3, []), (25, .if_icmp .gt 31, 3, []), (28, .aload_n 0, 1, []), (29, .getfield 30, 3, [369]), (32, .getfield 219, 3, [293]), (35, .iload_n 1, 1, []), (36, .if_icmp .lt 5, 3, []), (39, .iload_n 2, 1, []), (40, .ireturn, 1, []), (41, .aload_n 0, 1, []), (42, .getfield 30, 3, [369]), (45, .iconst 0, 1, []), (46, .invokevirtual 226, 3, [1238, 1239, 1240, 104, 1241]), (49, .pop, 1, []), (50, .iinc 2 1, 3, []), (53, .goto (-32), 3, []), (56, .iconst (-1), 1, []), (57, .ireturn, 1, [])]
def z_h152 : List (Nat × Nat × Nat × Nat × Nat × Nat × Nat) := []
def z_m153 : zMi := (RX11, yX11_warmest, cX11_warmest, 5, some .int, [])
def z_c153 : List zI := [(2, 0, 0, 0), (1, 1, 0, 0), (0, 0, 0, 1), (0, 0, 0, 200), (54, 170, 3, 8), (2, 0, 0, 0), (37, 8, 3, 0), (2, 0, 0, 0), (37, 8, 2, 0), (54, 23, 1, 1), (0, 0, 0, 0), (4, 2, 0, 0), (2, 0, 0, 0), (37, 8, 3, 0), (37, 1, 9, 0), (4, 3, 0, 0), (0, 0, 0, 1), (4, 4, 0, 0), (1, 4, 0, 0), (1, 1, 0, 0), (32, 39, 4, 0), (2, 0, 0, 0), (37, 8, 3, 0), (0, 0, 0, 0), (54, 34, 1, 1), (29, 0, 0, 0), (2, 0, 0, 0), (37, 8, 3, 0), (37, 1, 9, 0), (1, 3, 0, 0), (32, 37, 5, 0), (2, 0, 0, 0), (37, 8, 3, 0), (37, 1, 9, 0), (4, 3, 0, 0), (1, 4, 0, 0), (4, 2, 0, 0), (7, 4, 0, 1), (30, 18, 0, 0), (1, 2, 0, 0), (50, 0, 0, 0)]
def z_i153 : List zJ := [(0, .aload_n 0, 1, []), (1, .iload_n 1, 1, []), (2, .iconst 1, 1, []), (3, .sipush 200, 3, []), (6, .invokevirtual 222, 3, [1233, 1235, 16, 101, 1236]), (9, .aload_n 0, 1, []), (10, .getfield 30, 3, [369]), (13, .aload_n 0, 1, []), (14, .getfield 26, 3, [368]), (17, .invokevirtual 58, 3, [598, 416, 417, 104, 418]), (20, .iconst 0, 1, []), (21, .istore_n 2, 1, []), (22, .aload_n 0, 1, []), (23, .getfield 30, 3, [369]), (26, .getfield 289, 3, [291]), (29, .istore_n 3, 1, []), (30, .iconst 1, 1, []), (31, .istore 4, 2, []), (33, .iload 4, 2, []), (35, .iload_n 1, 1, []), (36, .if_icmp .gt 40, 3, []), (39, .aload_n 0, 1, []), (40, .getfield 30, 3, [369]), (43, .iconst 0, 1, []), (44, .invokevirtual 226, 3, [1238, 1239, 1240, 104, 1241]), (47, .pop, 1, []), (48, .aload_n 0, 1, []), (49, .getfield 30, 3, [369]), (52, .getfield 289, 3, [291]), (55, .iload_n 3, 1, []), (56, .if_icmp .le 14, 3, []), (59, .aload_n 0, 1, []), (60, .getfield 30, 3, [369]), (63, .getfield 289, 3, [291]), (66, .istore_n 3, 1, []), (67, .iload 4, 2, []), (69, .istore_n 2, 1, []), (70, .iinc 4 1, 3, []), (73, .goto (-40), 3, []), (76, .iload_n 2, 1, []), (77, .ireturn, 1, [])]
def z_h153 : List (Nat × Nat × Nat × Nat × Nat × Nat × Nat) := []
def z_m154 : zMi := (RX11, yX11_ruin, cX11_ruin, 3, some .int, [])
def z_c154 : List zI := [(2, 0, 0, 0), (1, 1, 0, 0), (54, 167, 1, 8), (2, 0, 0, 0), (37, 8, 3, 0), (2, 0, 0, 0), (37, 8, 2, 0), (54, 23, 1, 1), (0, 0, 0, 0), (4, 2, 0, 0), (1, 2, 0, 0), (0, 0, 0, 200), (32, 28, 4, 0), (2, 0, 0, 0), (37, 8, 3, 0), (37, 1, 1, 0), (1, 1, 0, 0), (54, 16, 1, 0), (31, 21, 1, 0), (1, 2, 0, 0), (50, 0, 0, 0), (2, 0, 0, 0), (37, 8, 3, 0), (0, 0, 0, 0), (54, 34, 1, 1), (29, 0, 0, 0), (7, 2, 0, 1), (30, 10, 0, 0), (0, 0, 0, -1), (50, 0, 0, 0)]
def z_i154 : List zJ := [(0, .aload_n 0, 1, []), (1, .iload_n 1, 1, []), (2, .invokevirtual 112, 3, [1026, 1028, 9, 101, 1029]), (5, .aload_n 0, 1, []), (6, .getfield 30, 3, [369]), (9, .aload_n 0, 1, []), (10, .getfield 26, 3, [368]), (13, .invokevirtual 58, 3, [598, 416, 417, 104, 418]), (16, .iconst 0, 1, []), (17, .istore_n 2, 1, []), (18, .iload_n 2, 1, []), (19, .sipush 200, 3, []), (22, .if_icmp .gt 34, 3, []), (25, .aload_n 0, 1, []), (26, .getfield 30, 3, [369]), (29, .getfield 123, 3, [275]), (32, .iload_n 1, 1, []), (33, .invokevirtual 127, 3, [1053, 1054, 1055, 105, 1056]), (36, .ifCond .ne 5, 3, []), (39, .iload_n 2, 1, []), (40, .ireturn, 1, []), (41, .aload_n 0, 1, []), (42, .getfield 30, 3, [369]), (45, .iconst 0, 1, []), (46, .invokevirtual 226, 3, [1238, 1239, 1240, 104, 1241]), (49, .pop, 1, []), (50, .iinc 2 1, 3, []), (53, .goto (-35), 3, []), (56, .iconst (-1), 1, []), (57, .ireturn, 1, [])]
def z_h154 : List (Nat × Nat × Nat × Nat × Nat × Nat × Nat) := []
def z_m155 : zMi := (RX11, yX11_rich, cX11_rich, 1, some .int, [])
def z_c155 : List zI := [(2, 0, 0, 0), (37, 8, 2, 0), (55, 116, 1, 0), (50, 0, 0, 0)]
def z_i155 : List zJ := [(0, .aload_n 0, 1, []), (1, .getfield 26, 3, [368]), (4, .invokestatic 292, 3, [566, 567, 129, 568]), (7, .ireturn, 1, [])]
def z_h155 : List (Nat × Nat × Nat × Nat × Nat × Nat × Nat) := []
def z_m156 : zMi := (RX11, yX11_cramped, cX11_cramped, 1, some .int, [])
def z_c156 : List zI := [(2, 0, 0, 0), (37, 8, 2, 0), (37, 1, 2, 0), (2, 0, 0, 0), (37, 8, 2, 0), (54, 27, 0, 1), (54, 109, 1, 7), (50, 0, 0, 0)]
def z_i156 : List zJ := [(0, .aload_n 0, 1, []), (1, .getfield 26, 3, [368]), (4, .getfield 165, 3, [278]), (7, .aload_n 0, 1, []), (8, .getfield 26, 3, [368]), (11, .invokevirtual 203, 3, [573, 574, 575, 104, 576]), (14, .invokevirtual 295, 3, [578, 579, 580, 106, 581]), (17, .ireturn, 1, [])]
def z_h156 : List (Nat × Nat × Nat × Nat × Nat × Nat × Nat) := []
def z_m157 : zMi := (RX11, yX11_trial, cX11_trial, 4, some .int, [])
def z_c157 : List zI := [(2, 0, 0, 0), (1, 1, 0, 0), (0, 0, 0, 0), (0, 0, 0, 200), (54, 170, 3, 8), (1, 2, 0, 0), (31, 15, 1, 0), (2, 0, 0, 0), (37, 8, 2, 0), (1, 1, 0, 0), (2, 0, 0, 0), (37, 8, 2, 0), (37, 1, 17, 0), (54, 38, 2, 1), (50, 0, 0, 0), (2, 0, 0, 0), (37, 8, 3, 0), (2, 0, 0, 0), (37, 8, 2, 0), (54, 23, 1, 1), (0, 0, 0, 0), (4, 3, 0, 0), (1, 3, 0, 0), (1, 1, 0, 0), (32, 32, 3, 0), (2, 0, 0, 0), (37, 8, 3, 0), (0, 0, 0, 1), (54, 34, 1, 1), (29, 0, 0, 0), (7, 3, 0, 1), (30, 22, 0, 0), (2, 0, 0, 0), (37, 8, 3, 0), (37, 1, 1, 0), (54, 19, 0, 0), (50, 0, 0, 0)]
def z_i157 : List zJ := [(0, .aload_n 0, 1, []), (1, .iload_n 1, 1, []), (2, .iconst 0, 1, []), (3, .sipush 200, 3, []), (6, .invokevirtual 222, 3, [1233, 1235, 16, 101, 1236]), (9, .iload_n 2, 1, []), (10, .ifCond .ne 19, 3, []), (13, .aload_n 0, 1, []), (14, .getfield 26, 3, [368]), (17, .iload_n 1, 1, []), (18, .aload_n 0, 1, []), (19, .getfield 26, 3, [368]), (22, .getfield 298, 3, [308]), (25, .invokevirtual 301, 3, [1406, 1407, 1408, 104, 1409]), (28, .ireturn, 1, []), (29, .aload_n 0, 1, []), (30, .getfield 30, 3, [369]), (33, .aload_n 0, 1, []), (34, .getfield 26, 3, [368]), (37, .invokevirtual 58, 3, [598, 416, 417, 104, 418]), (40, .iconst 0, 1, []), (41, .istore_n 3, 1, []), (42, .iload_n 3, 1, []), (43, .iload_n 1, 1, []), (44, .if_icmp .ge 18, 3, []), (47, .aload_n 0, 1, []), (48, .getfield 30, 3, [369]), (51, .iconst 1, 1, []), (52, .invokevirtual 226, 3, [1238, 1239, 1240, 104, 1241]), (55, .pop, 1, []), (56, .iinc 3 1, 3, []), (59, .goto (-17), 3, []), (62, .aload_n 0, 1, []), (63, .getfield 30, 3, [369]), (66, .getfield 123, 3, [275]), (69, .invokevirtual 304, 3, [1410, 1411, 1412, 105, 1413]), (72, .ireturn, 1, [])]
def z_h157 : List (Nat × Nat × Nat × Nat × Nat × Nat × Nat) := []
def z_m158 : zMi := (RX11, yX11_span, cX11_span, 6, some .int, [])
def z_c158 : List zI := [(2, 0, 0, 0), (1, 1, 0, 0), (0, 0, 0, 0), (0, 0, 0, 200), (54, 170, 3, 8), (2, 0, 0, 0), (37, 8, 2, 0), (1, 1, 0, 0), (0, 0, 0, 1), (54, 38, 2, 1), (4, 3, 0, 0), (0, 0, 0, 2), (4, 4, 0, 0), (1, 4, 0, 0), (0, 0, 0, 6), (32, 34, 4, 0), (2, 0, 0, 0), (37, 8, 2, 0), (1, 1, 0, 0), (1, 4, 0, 0), (54, 38, 2, 1), (4, 5, 0, 0), (1, 2, 0, 0), (31, 28, 0, 0), (1, 3, 0, 0), (1, 5, 0, 0), (68, 0, 0, 0), (30, 31, 0, 0), (1, 3, 0, 0), (1, 5, 0, 0), (67, 0, 0, 0), (4, 3, 0, 0), (7, 4, 0, 1), (30, 13, 0, 0), (1, 3, 0, 0), (50, 0, 0, 0)]
def z_i158 : List zJ := [(0, .aload_n 0, 1, []), (1, .iload_n 1, 1, []), (2, .iconst 0, 1, []), (3, .sipush 200, 3, []), (6, .invokevirtual 222, 3, [1233, 1235, 16, 101, 1236]), (9, .aload_n 0, 1, []), (10, .getfield 26, 3, [368]), (13, .iload_n 1, 1, []), (14, .iconst 1, 1, []), (15, .invokevirtual 301, 3, [1406, 1407, 1408, 104, 1409]), (18, .istore_n 3, 1, []), (19, .iconst 2, 1, []), (20, .istore 4, 2, []), (22, .iload 4, 2, []), (24, .bipush 6, 2, []), (26, .if_icmp .gt 41, 3, []), (29, .aload_n 0, 1, []), (30, .getfield 26, 3, [368]), (33, .iload_n 1, 1, []), (34, .iload 4, 2, []), (36, .invokevirtual 301, 3, [1406, 1407, 1408, 104, 1409]), (39, .istore 5, 2, []), (41, .iload_n 2, 1, []), (42, .ifCond .eq 12, 3, []), (45, .iload_n 3, 1, []), (46, .iload 5, 2, []), (48, .invokestatic 307, 3, [1421]), (51, .goto 9, 3, []), (54, .iload_n 3, 1, []), (55, .iload 5, 2, []), (57, .invokestatic 312, 3, [1422]), (60, .istore_n 3, 1, []), (61, .iinc 4 1, 3, []), (64, .goto (-42), 3, []), (67, .iload_n 3, 1, []), (68, .ireturn, 1, [])]
def z_h158 : List (Nat × Nat × Nat × Nat × Nat × Nat × Nat) := []
def z_m159 : zMi := (RX11, yX11_led, cX11_led, 3, some .int, [])
def z_c159 : List zI := [(2, 0, 0, 0), (1, 1, 0, 0), (54, 167, 1, 8), (1, 2, 0, 0), (31, 11, 0, 0), (2, 0, 0, 0), (37, 8, 2, 0), (37, 1, 3, 0), (1, 1, 0, 0), (54, 60, 1, 4), (30, 16, 0, 0), (2, 0, 0, 0), (37, 8, 2, 0), (37, 1, 3, 0), (1, 1, 0, 0), (54, 59, 1, 4), (50, 0, 0, 0)]
def z_i159 : List zJ := [(0, .aload_n 0, 1, []), (1, .iload_n 1, 1, []), (2, .invokevirtual 112, 3, [1026, 1028, 9, 101, 1029]), (5, .iload_n 2, 1, []), (6, .ifCond .eq 17, 3, []), (9, .aload_n 0, 1, []), (10, .getfield 26, 3, [368]), (13, .getfield 315, 3, [280]), (16, .iload_n 1, 1, []), (17, .invokevirtual 319, 3, [1430, 1431, 1432, 107, 1433]), (20, .goto 14, 3, []), (23, .aload_n 0, 1, []), (24, .getfield 26, 3, [368]), (27, .getfield 315, 3, [280]), (30, .iload_n 1, 1, []), (31, .invokevirtual 324, 3, [1439, 1440, 1441, 107, 1442]), (34, .ireturn, 1, [])]
def z_h159 : List (Nat × Nat × Nat × Nat × Nat × Nat × Nat) := []
def z_m160 : zMi := (RX11, yX11_log, cX11_log, 3, some .int, [])
def z_c160 : List zI := [(2, 0, 0, 0), (1, 2, 0, 0), (0, 0, 0, 4), (54, 169, 2, 8), (2, 0, 0, 0), (37, 8, 2, 0), (37, 1, 3, 0), (1, 1, 0, 0), (1, 2, 0, 0), (54, 58, 2, 4), (50, 0, 0, 0)]
def z_i160 : List zJ := [(0, .aload_n 0, 1, []), (1, .iload_n 2, 1, []), (2, .iconst 4, 1, []), (3, .invokevirtual 115, 3, [1032, 1034, 10, 101, 1035]), (6, .aload_n 0, 1, []), (7, .getfield 26, 3, [368]), (10, .getfield 315, 3, [280]), (13, .iload_n 1, 1, []), (14, .iload_n 2, 1, []), (15, .invokevirtual 327, 3, [1450, 1435, 1436, 107, 1437]), (18, .ireturn, 1, [])]
def z_h160 : List (Nat × Nat × Nat × Nat × Nat × Nat × Nat) := []
def z_m161 : zMi := (RX11, yX11_seed, cX11_seed, 3, some .int, [])
def z_c161 : List zI := [(2, 0, 0, 0), (37, 8, 2, 0), (37, 1, 17, 0), (4, 2, 0, 0), (2, 0, 0, 0), (37, 8, 2, 0), (1, 1, 0, 0), (38, 1, 17, 0), (1, 2, 0, 0), (50, 0, 0, 0)]
def z_i161 : List zJ := [(0, .aload_n 0, 1, []), (1, .getfield 26, 3, [368]), (4, .getfield 298, 3, [308]), (7, .istore_n 2, 1, []), (8, .aload_n 0, 1, []), (9, .getfield 26, 3, [368]), (12, .iload_n 1, 1, []), (13, .putfield 298, 3, [308]), (16, .iload_n 2, 1, []), (17, .ireturn, 1, [])]
def z_h161 : List (Nat × Nat × Nat × Nat × Nat × Nat × Nat) := []
def z_m162 : zMi := (RX11, yX11_undo, cX11_undo, 1, some .boolean, [])
def z_c162 : List zI := [(2, 0, 0, 0), (37, 8, 5, 0), (2, 0, 0, 0), (37, 8, 2, 0), (54, 63, 1, 5), (50, 0, 0, 0)]
def z_i162 : List zJ := [(0, .aload_n 0, 1, []), (1, .getfield 39, 3, [371]), (4, .aload_n 0, 1, []), (5, .getfield 26, 3, [368]), (8, .invokevirtual 330, 3, [590, 591, 592, 109, 593]), (11, .ireturn, 1, [])]
def z_h162 : List (Nat × Nat × Nat × Nat × Nat × Nat × Nat) := []
def z_m163 : zMi := (RX11, yX11_image, cX11_image, 1, none, [])
def z_c163 : List zI := [(2, 0, 0, 0), (37, 8, 4, 0), (2, 0, 0, 0), (37, 8, 2, 0), (54, 23, 1, 1), (2, 0, 0, 0), (0, 0, 0, 1), (38, 8, 6, 1), (53, 0, 0, 0)]
def z_i163 : List zJ := [(0, .aload_n 0, 1, []), (1, .getfield 33, 3, [370]), (4, .aload_n 0, 1, []), (5, .getfield 26, 3, [368]), (8, .invokevirtual 58, 3, [598, 416, 417, 104, 418]), (11, .aload_n 0, 1, []), (12, .iconst 1, 1, []), (13, .putfield 43, 3, [372]), (16, .return_, 1, [])]
def z_h163 : List (Nat × Nat × Nat × Nat × Nat × Nat × Nat) := []
def z_m164 : zMi := (RX11, yX11_back, cX11_back, 1, some .boolean, [])
def z_c164 : List zI := [(2, 0, 0, 0), (37, 8, 6, 0), (31, 5, 1, 0), (0, 0, 0, 0), (50, 0, 0, 0), (2, 0, 0, 0), (37, 8, 2, 0), (2, 0, 0, 0), (37, 8, 4, 0), (54, 23, 1, 1), (2, 0, 0, 0), (37, 8, 5, 0), (54, 64, 0, 5), (0, 0, 0, 1), (50, 0, 0, 0)]
def z_i164 : List zJ := [(0, .aload_n 0, 1, []), (1, .getfield 43, 3, [372]), (4, .ifCond .ne 5, 3, []), (7, .iconst 0, 1, []), (8, .ireturn, 1, []), (9, .aload_n 0, 1, []), (10, .getfield 26, 3, [368]), (13, .aload_n 0, 1, []), (14, .getfield 33, 3, [370]), (17, .invokevirtual 58, 3, [598, 416, 417, 104, 418]), (20, .aload_n 0, 1, []), (21, .getfield 39, 3, [371]), (24, .invokevirtual 83, 3, [603, 604, 605, 109, 606]), (27, .iconst 1, 1, []), (28, .ireturn, 1, [])]
def z_h164 : List (Nat × Nat × Nat × Nat × Nat × Nat × Nat) := []
def z_m165 : zMi := (RX11, yX11_count, cX11_count, 2, some .int, [])
def z_c165 : List zI := [(1, 1, 0, 0), (35, 4, 0, 0), (2, 0, 0, 0), (37, 8, 2, 0), (37, 1, 1, 0), (37, 0, 4, 0), (50, 0, 0, 0), (2, 0, 0, 0), (37, 8, 2, 0), (37, 1, 2, 0), (37, 7, 3, 0), (50, 0, 0, 0), (2, 0, 0, 0), (37, 8, 2, 0), (37, 1, 6, 0), (50, 0, 0, 0), (2, 0, 0, 0), (37, 8, 2, 0), (54, 25, 0, 1), (50, 0, 0, 0), (2, 0, 0, 0), (37, 8, 2, 0), (37, 1, 2, 0), (37, 7, 2, 0), (50, 0, 0, 0), (2, 0, 0, 0), (37, 8, 2, 0), (54, 27, 0, 1), (50, 0, 0, 0), (2, 0, 0, 0), (37, 8, 2, 0), (37, 1, 3, 0), (37, 4, 2, 0), (50, 0, 0, 0), (2, 0, 0, 0), (37, 8, 5, 0), (37, 5, 2, 0), (50, 0, 0, 0), (2, 0, 0, 0), (37, 8, 2, 0), (1, 1, 0, 0), (54, 24, 1, 1), (50, 0, 0, 0)]
def z_i165 : List zJ := [(0, .iload_n 1, 1, []), (1, .tableswitch 163 0 17 #[87, 98, 109, 117, 163, 163, 163, 163, 163, 163, 163, 163, 163, 163, 125, 136, 144, 155], 87, []), (88, .aload_n 0, 1, []), (89, .getfield 26, 3, [368]), (92, .getfield 123, 3, [275]), (95, .getfield 334, 3, [211]), (98, .ireturn, 1, []), (99, .aload_n 0, 1, []), (100, .getfield 26, 3, [368]), (103, .getfield 165, 3, [278]), (106, .getfield 337, 3, [239]), (109, .ireturn, 1, []), (110, .aload_n 0, 1, []), (111, .getfield 26, 3, [368]), (114, .getfield 75, 3, [285]), (117, .ireturn, 1, []), (118, .aload_n 0, 1, []), (119, .getfield 26, 3, [368]), (122, .invokevirtual 338, 3, [611, 612, 613, 104, 614]), (125, .ireturn, 1, []), (126, .aload_n 0, 1, []), (127, .getfield 26, 3, [368]), (130, .getfield 165, 3, [278]), (133, .getfield 341, 3, [236]), (136, .ireturn, 1, []), (137, .aload_n 0, 1, []), (138, .getfield 26, 3, [368]), (141, .invokevirtual 203, 3, [573, 574, 575, 104, 576]), (144, .ireturn, 1, []), (145, .aload_n 0, 1, []), (146, .getfield 26, 3, [368]), (149, .getfield 315, 3, [280]), (152, .getfield 344, 3, [258]), (155, .ireturn, 1, []), (156, .aload_n 0, 1, []), (157, .getfield 39, 3, [371]), (160, .getfield 347, 3, [358]), (163, .ireturn, 1, []), (164, .aload_n 0, 1, []), (165, .getfield 26, 3, [368]), (168, .iload_n 1, 1, []), (169, .invokevirtual 348, 3, [615, 616, 617, 104, 618]), (172, .ireturn, 1, [])]
def z_h165 : List (Nat × Nat × Nat × Nat × Nat × Nat × Nat) := []
def z_m166 : zMi := (RX11, yX11_needHour, cX11_needHour, 2, none, [])
def z_c166 : List zI := [(1, 1, 0, 0), (31, 5, 2, 0), (1, 1, 0, 0), (0, 0, 0, 24), (32, 10, 2, 0), (62, 2, 4, 0), (99, 0, 0, 0), (99, 0, 0, 0), (99, 0, 0, 0), (99, 0, 0, 0), (53, 0, 0, 0)]
def z_i166 : List zJ := [(0, .iload_n 1, 1, []), (1, .ifCond .lt 9, 3, []), (4, .iload_n 1, 1, []), (5, .bipush 24, 2, []), (7, .if_icmp .lt 14, 3, []), (10, .new 351, 3, [1002, 124, 353, 355]), (13, .dup, 1, []), (14, .ldc_w 353, 3, []), (17, .invokespecial 355, 3, []), (20, .athrow, 1, []), (21, .return_, 1, [])]
def z_h166 : List (Nat × Nat × Nat × Nat × Nat × Nat × Nat) := []
def z_m167 : zMi := (RX11, yX11_needFamily, cX11_needFamily, 2, none, [])
def z_c167 : List zI := [(2, 0, 0, 0), (37, 8, 2, 0), (37, 1, 1, 0), (1, 1, 0, 0), (54, 9, 1, 0), (31, 11, 1, 0), (62, 2, 5, 0), (99, 0, 0, 0), (99, 0, 0, 0), (99, 0, 0, 0), (99, 0, 0, 0), (53, 0, 0, 0)]
def z_i167 : List zJ := [(0, .aload_n 0, 1, []), (1, .getfield 26, 3, [368]), (4, .getfield 123, 3, [275]), (7, .iload_n 1, 1, []), (8, .invokevirtual 356, 3, [1030, 506, 507, 105, 508]), (11, .ifCond .ne 14, 3, []), (14, .new 351, 3, [1002, 124, 359, 355]), (17, .dup, 1, []), (18, .ldc_w 359, 3, []), (21, .invokespecial 355, 3, []), (24, .athrow, 1, []), (25, .return_, 1, [])]
def z_h167 : List (Nat × Nat × Nat × Nat × Nat × Nat × Nat) := []
def z_m168 : zMi := (RX11, yX11_needThing, cX11_needThing, 2, none, [])
def z_c168 : List zI := [(2, 0, 0, 0), (37, 8, 2, 0), (37, 1, 2, 0), (1, 1, 0, 0), (54, 102, 1, 7), (31, 11, 1, 0), (62, 2, 6, 0), (99, 0, 0, 0), (99, 0, 0, 0), (99, 0, 0, 0), (99, 0, 0, 0), (53, 0, 0, 0)]
def z_i168 : List zJ := [(0, .aload_n 0, 1, []), (1, .getfield 26, 3, [368]), (4, .getfield 165, 3, [278]), (7, .iload_n 1, 1, []), (8, .invokevirtual 361, 3, [1119, 1120, 1121, 106, 1122]), (11, .ifCond .ne 14, 3, []), (14, .new 351, 3, [1002, 124, 362, 355]), (17, .dup, 1, []), (18, .ldc_w 362, 3, []), (21, .invokespecial 355, 3, []), (24, .athrow, 1, []), (25, .return_, 1, [])]
def z_h168 : List (Nat × Nat × Nat × Nat × Nat × Nat × Nat) := []
def z_m169 : zMi := (RX11, yX11_needWhat, cX11_needWhat, 3, none, [])
def z_c169 : List zI := [(1, 1, 0, 0), (31, 5, 2, 0), (1, 1, 0, 0), (1, 2, 0, 0), (32, 10, 5, 0), (62, 3, 7, 0), (99, 0, 0, 0), (99, 0, 0, 0), (99, 0, 0, 0), (99, 0, 0, 0), (53, 0, 0, 0)]
def z_i169 : List zJ := [(0, .iload_n 1, 1, []), (1, .ifCond .lt 8, 3, []), (4, .iload_n 1, 1, []), (5, .iload_n 2, 1, []), (6, .if_icmp .le 14, 3, []), (9, .new 364, 3, [1036, 125, 366, 368]), (12, .dup, 1, []), (13, .ldc_w 366, 3, []), (16, .invokespecial 368, 3, []), (19, .athrow, 1, []), (20, .return_, 1, [])]
def z_h169 : List (Nat × Nat × Nat × Nat × Nat × Nat × Nat) := []
def z_m170 : zMi := (RX11, yX11_needBetween, cX11_needBetween, 4, none, [])
def z_c170 : List zI := [(1, 1, 0, 0), (1, 2, 0, 0), (32, 6, 2, 0), (1, 1, 0, 0), (1, 3, 0, 0), (32, 11, 5, 0), (62, 0, 8, 0), (99, 0, 0, 0), (99, 0, 0, 0), (99, 0, 0, 0), (99, 0, 0, 0), (53, 0, 0, 0)]
def z_i170 : List zJ := [(0, .iload_n 1, 1, []), (1, .iload_n 2, 1, []), (2, .if_icmp .lt 8, 3, []), (5, .iload_n 1, 1, []), (6, .iload_n 3, 1, []), (7, .if_icmp .le 14, 3, []), (10, .new 68, 3, [796, 121, 369, 72]), (13, .dup, 1, []), (14, .ldc_w 369, 3, []), (17, .invokespecial 72, 3, []), (20, .athrow, 1, []), (21, .return_, 1, [])]
def z_h170 : List (Nat × Nat × Nat × Nat × Nat × Nat × Nat) := []
def z_m171 : zMi := (RX11, yX11_needOther, cX11_needOther, 3, none, [])
def z_c171 : List zI := [(1, 1, 0, 0), (1, 2, 0, 0), (32, 8, 1, 0), (62, 0, 9, 0), (99, 0, 0, 0), (99, 0, 0, 0), (99, 0, 0, 0), (99, 0, 0, 0), (53, 0, 0, 0)]
def z_i171 : List zJ := [(0, .iload_n 1, 1, []), (1, .iload_n 2, 1, []), (2, .if_icmp .ne 14, 3, []), (5, .new 68, 3, [796, 121, 371, 72]), (8, .dup, 1, []), (9, .ldc_w 371, 3, []), (12, .invokespecial 72, 3, []), (15, .athrow, 1, []), (16, .return_, 1, [])]
def z_h171 : List (Nat × Nat × Nat × Nat × Nat × Nat × Nat) := []
def z_m172 : zMi := (RX11, yX11_needThat, cX11_needThat, 2, none, [])
def z_c172 : List zI := [(1, 1, 0, 0), (31, 7, 1, 0), (62, 4, 10, 0), (99, 0, 0, 0), (99, 0, 0, 0), (99, 0, 0, 0), (99, 0, 0, 0), (53, 0, 0, 0)]
def z_i172 : List zJ := [(0, .iload_n 1, 1, []), (1, .ifCond .ne 14, 3, []), (4, .new 373, 3, [1150, 128, 375, 377]), (7, .dup, 1, []), (8, .ldc_w 375, 3, []), (11, .invokespecial 377, 3, []), (14, .athrow, 1, []), (15, .return_, 1, [])]
def z_h172 : List (Nat × Nat × Nat × Nat × Nat × Nat × Nat) := []
def z_m173 : zMi := (RX11, yX11_tellsRisings, cX11_tellsRisings, 2, some .boolean, [])
def z_c173 : List zI := [(0, 0, 0, 0), (4, 1, 0, 0), (1, 1, 0, 0), (2, 0, 0, 0), (37, 8, 0, 0), (37, 6, 1, 0), (32, 17, 3, 0), (2, 0, 0, 0), (37, 8, 0, 0), (1, 1, 0, 0), (54, 86, 1, 6), (0, 0, 0, 9), (32, 15, 5, 0), (0, 0, 0, 0), (50, 0, 0, 0), (7, 1, 0, 1), (30, 2, 0, 0), (2, 0, 0, 0), (37, 8, 0, 0), (37, 6, 1, 0), (0, 0, 0, 20), (32, 24, 4, 0), (0, 0, 0, 1), (30, 25, 0, 0), (0, 0, 0, 0), (50, 0, 0, 0)]
def z_i173 : List zJ := [(0, .iconst 0, 1, []), (1, .istore_n 1, 1, []), (2, .iload_n 1, 1, []), (3, .aload_n 0, 1, []), (4, .getfield 10, 3, [366]), (7, .getfield 51, 3, [146]), (10, .if_icmp .ge 24, 3, []), (13, .aload_n 0, 1, []), (14, .getfield 10, 3, [366]), (17, .iload_n 1, 1, []), (18, .invokevirtual 378, 3, [1345, 666, 667, 102, 668]), (21, .bipush 9, 2, []), (23, .if_icmp .le 5, 3, []), (26, .iconst 0, 1, []), (27, .ireturn, 1, []), (28, .iinc 1 1, 3, []), (31, .goto (-29), 3, []), (34, .aload_n 0, 1, []), (35, .getfield 10, 3, [366]), (38, .getfield 51, 3, [146]), (41, .bipush 20, 2, []), (43, .if_icmp .gt 7, 3, []), (46, .iconst 1, 1, []), (47, .goto 4, 3, []), (50, .iconst 0, 1, []), (51, .ireturn, 1, [])]
def z_h173 : List (Nat × Nat × Nat × Nat × Nat × Nat × Nat) := []
def z_m174 : zMi := (RX11, yX11_suspects, cX11_suspects, 3, some .int, [])
def z_c174 : List zI := [(2, 0, 0, 0), (37, 8, 2, 0), (37, 1, 1, 0), (54, 11, 0, 0), (4, 1, 0, 0), (0, 0, 0, 0), (4, 2, 0, 0), (1, 2, 0, 0), (2, 0, 0, 0), (37, 8, 0, 0), (37, 6, 1, 0), (32, 25, 3, 0), (1, 1, 0, 0), (2, 0, 0, 0), (37, 8, 2, 0), (37, 1, 1, 0), (2, 0, 0, 0), (37, 8, 0, 0), (1, 2, 0, 0), (54, 86, 1, 6), (54, 20, 1, 0), (16, 0, 0, 0), (4, 1, 0, 0), (7, 2, 0, 1), (30, 7, 0, 0), (1, 1, 0, 0), (50, 0, 0, 0)]
def z_i174 : List zJ := [(0, .aload_n 0, 1, []), (1, .getfield 26, 3, [368]), (4, .getfield 123, 3, [275]), (7, .invokevirtual 381, 3, [1356, 463, 464, 105, 465]), (10, .istore_n 1, 1, []), (11, .iconst 0, 1, []), (12, .istore_n 2, 1, []), (13, .iload_n 2, 1, []), (14, .aload_n 0, 1, []), (15, .getfield 10, 3, [366]), (18, .getfield 51, 3, [146]), (21, .if_icmp .ge 30, 3, []), (24, .iload_n 1, 1, []), (25, .aload_n 0, 1, []), (26, .getfield 26, 3, [368]), (29, .getfield 123, 3, [275]), (32, .aload_n 0, 1, []), (33, .getfield 10, 3, [366]), (36, .iload_n 2, 1, []), (37, .invokevirtual 378, 3, [1345, 666, 667, 102, 668]), (40, .invokevirtual 384, 3, [1350, 538, 539, 105, 540]), (43, .iand, 1, []), (44, .istore_n 1, 1, []), (45, .iinc 2 1, 3, []), (48, .goto (-35), 3, []), (51, .iload_n 1, 1, []), (52, .ireturn, 1, [])]
def z_h174 : List (Nat × Nat × Nat × Nat × Nat × Nat × Nat) := []
def z_m175 : zMi := (RX11, yX11_rowsOfSuspects, cX11_rowsOfSuspects, 4, some .int, [])
def z_c175 : List zI := [(25, 0, 0, 1), (6, 1, 0, 0), (0, 0, 0, 0), (4, 3, 0, 0), (1, 3, 0, 0), (2, 0, 0, 0), (37, 8, 0, 0), (37, 6, 1, 0), (32, 24, 3, 0), (3, 1, 0, 0), (2, 0, 0, 0), (37, 8, 2, 0), (37, 1, 1, 0), (2, 0, 0, 0), (37, 8, 0, 0), (1, 3, 0, 0), (54, 86, 1, 6), (54, 20, 1, 0), (55, 311, 1, 0), (19, 0, 0, 0), (23, 0, 0, 0), (6, 1, 0, 0), (7, 3, 0, 1), (30, 4, 0, 0), (3, 1, 0, 0), (25, 0, 0, 9999), (26, 0, 0, 0), (31, 30, 5, 0), (0, 0, 0, 9999), (30, 32, 0, 0), (3, 1, 0, 0), (20, 0, 0, 0), (50, 0, 0, 0)]
def z_i175 : List zJ := [(0, .lconst 1, 1, []), (1, .lstore_n 1, 1, []), (2, .iconst 0, 1, []), (3, .istore_n 3, 1, []), (4, .iload_n 3, 1, []), (5, .aload_n 0, 1, []), (6, .getfield 10, 3, [366]), (9, .getfield 51, 3, [146]), (12, .if_icmp .ge 34, 3, []), (15, .lload_n 1, 1, []), (16, .aload_n 0, 1, []), (17, .getfield 26, 3, [368]), (20, .getfield 123, 3, [275]), (23, .aload_n 0, 1, []), (24, .getfield 10, 3, [366]), (27, .iload_n 3, 1, []), (28, .invokevirtual 378, 3, [1345, 666, 667, 102, 668]), (31, .invokevirtual 384, 3, [1350, 538, 539, 105, 540]), (34, .invokestatic 141, 3, [1057, 482, 126, 483]), (37, .i2l, 1, []), (38, .lmul, 1, []), (39, .lstore_n 1, 1, []), (40, .iinc 3 1, 3, []), (43, .goto (-39), 3, []), (46, .lload_n 1, 1, []), (47, .ldc2_w 387, 3, [1351]), (50, .lcmp, 1, []), (51, .ifCond .le 9, 3, []), (54, .sipush 9999, 3, []), (57, .goto 5, 3, []), (60, .lload_n 1, 1, []), (61, .l2i, 1, []), (62, .ireturn, 1, [])]
def z_h175 : List (Nat × Nat × Nat × Nat × Nat × Nat × Nat) := []
def z_m176 : zMi := (RX12, yX12_throwsIf, cX12_throwsIf, 3, some .boolean, [])
def z_c176 : List zI := [(1, 1, 0, 0), (31, 5, 0, 0), (2, 0, 0, 0), (1, 2, 0, 0), (38, 9, 0, 0), (1, 1, 0, 0), (50, 0, 0, 0)]
def z_i176 : List zJ := [(0, .iload_n 1, 1, []), (1, .ifCond .eq 8, 3, []), (4, .aload_n 0, 1, []), (5, .iload_n 2, 1, []), (6, .putfield 3, 3, [1457]), (9, .iload_n 1, 1, []), (10, .ireturn, 1, [])]
def z_h176 : List (Nat × Nat × Nat × Nat × Nat × Nat × Nat) := []
def z_m177 : zMi := (RX12, yX12_in, cX12_in, 3, some .boolean, [])
def z_c177 : List zI := [(1, 0, 0, 0), (1, 1, 0, 0), (32, 8, 2, 0), (1, 0, 0, 0), (1, 2, 0, 0), (32, 8, 4, 0), (0, 0, 0, 1), (30, 9, 0, 0), (0, 0, 0, 0), (50, 0, 0, 0)]
def z_i177 : List zJ := [(0, .iload_n 0, 1, []), (1, .iload_n 1, 1, []), (2, .if_icmp .lt 12, 3, []), (5, .iload_n 0, 1, []), (6, .iload_n 2, 1, []), (7, .if_icmp .gt 7, 3, []), (10, .iconst 1, 1, []), (11, .goto 4, 3, []), (14, .iconst 0, 1, []), (15, .ireturn, 1, [])]
def z_h177 : List (Nat × Nat × Nat × Nat × Nat × Nat × Nat) := []
def z_m178 : zMi := (RX12, yX12_has, cX12_has, 2, some .boolean, [])
def z_c178 : List zI := [(1, 0, 0, 0), (1, 1, 0, 0), (14, 0, 0, 0), (0, 0, 0, 1), (16, 0, 0, 0), (0, 0, 0, 1), (32, 9, 1, 0), (0, 0, 0, 1), (30, 10, 0, 0), (0, 0, 0, 0), (50, 0, 0, 0)]
def z_i178 : List zJ := [(0, .iload_n 0, 1, []), (1, .iload_n 1, 1, []), (2, .ishr, 1, []), (3, .iconst 1, 1, []), (4, .iand, 1, []), (5, .iconst 1, 1, []), (6, .if_icmp .ne 7, 3, []), (9, .iconst 1, 1, []), (10, .goto 4, 3, []), (13, .iconst 0, 1, []), (14, .ireturn, 1, [])]
def z_h178 : List (Nat × Nat × Nat × Nat × Nat × Nat × Nat) := []
def z_m179 : zMi := (RX12, yX12_init, cX12_init, 2, none, [])
def z_c179 : List zI := [(2, 0, 0, 0), (57, 0, 0, 0), (2, 0, 0, 0), (0, 0, 0, 2086), (47, 0, 0, 0), (38, 9, 1, 2), (2, 0, 0, 0), (0, 0, 0, 1237), (47, 0, 0, 0), (38, 9, 2, 2), (2, 0, 0, 0), (0, 0, 0, 1237), (47, 0, 0, 0), (38, 9, 3, 2), (2, 0, 0, 0), (0, 0, 0, 388), (47, 0, 0, 0), (38, 9, 4, 2), (2, 0, 0, 0), (0, 0, 0, 4656), (47, 0, 0, 0), (38, 9, 5, 2), (2, 0, 0, 0), (0, 0, 0, 400), (47, 1, 0, 0), (38, 9, 8, 2), (2, 0, 0, 0), (0, 0, 0, -1), (38, 9, 14, 0), (2, 0, 0, 0), (0, 0, 0, 5), (47, 0, 0, 0), (38, 9, 15, 2), (2, 0, 0, 0), (0, 0, 0, 400), (47, 0, 0, 0), (38, 9, 17, 2), (2, 0, 0, 0), (0, 0, 0, 24), (47, 0, 0, 0), (38, 9, 18, 2), (2, 0, 0, 0), (0, 0, 0, 6), (47, 0, 0, 0), (38, 9, 19, 2), (2, 0, 0, 0), (0, 0, 0, 6), (47, 0, 0, 0), (38, 9, 20, 2), (2, 0, 0, 0), (0, 0, 0, 6), (47, 0, 0, 0), (38, 9, 21, 2), (0, 0, 0, 0), (4, 1, 0, 0), (1, 1, 0, 0), (0, 0, 0, 24), (32, 67, 3, 0), (2, 0, 0, 0), (37, 9, 1, 0), (0, 0, 0, 16), (1, 1, 0, 0), (8, 0, 0, 0), (0, 0, 0, -1), (40, 0, 0, 0), (7, 1, 0, 1), (30, 55, 0, 0), (2, 0, 0, 0), (37, 9, 1, 0), (0, 0, 0, 6), (0, 0, 0, 10), (40, 0, 0, 0), (2, 0, 0, 0), (37, 9, 1, 0), (0, 0, 0, 9), (0, 0, 0, -1), (40, 0, 0, 0), (2, 0, 0, 0), (37, 9, 1, 0), (0, 0, 0, 10), (0, 0, 0, 1), (40, 0, 0, 0), (2, 0, 0, 0), (37, 9, 1, 0), (0, 0, 0, 11), (0, 0, 0, 2), (40, 0, 0, 0), (2, 0, 0, 0), (37, 9, 1, 0), (0, 0, 0, 12), (0, 0, 0, 10), (40, 0, 0, 0), (2, 0, 0, 0), (37, 9, 1, 0), (0, 0, 0, 15), (0, 0, 0, 1), (40, 0, 0, 0), (53, 0, 0, 0)]
def z_i179 : List zJ := [(0, .aload_n 0, 1, []), (1, .invokespecial 7, 3, [1456, 136, 137]), (4, .aload_n 0, 1, []), (5, .sipush 2086, 3, []), (8, .newarray .int, 2, [158]), (10, .putfield 13, 3, [1458]), (13, .aload_n 0, 1, []), (14, .sipush 1237, 3, []), (17, .newarray .int, 2, [158]), (19, .putfield 17, 3, [1459]), (22, .aload_n 0, 1, []), (23, .sipush 1237, 3, []), (26, .newarray .int, 2, [158]), (28, .putfield 20, 3, [1460]), (31, .aload_n 0, 1, []), (32, .sipush 388, 3, []), (35, .newarray .int, 2, [158]), (37, .putfield 23, 3, [1461]), (40, .aload_n 0, 1, []), (41, .sipush 4656, 3, []), (44, .newarray .int, 2, [158]), (46, .putfield 26, 3, [1462]), (49, .aload_n 0, 1, []), (50, .sipush 400, 3, []), (53, .newarray .byte, 2, [865]), (55, .putfield 29, 3, [1465]), (58, .aload_n 0, 1, []), (59, .iconst (-1), 1, []), (60, .putfield 33, 3, [1471]), (63, .aload_n 0, 1, []), (64, .iconst 5, 1, []), (65, .newarray .int, 2, [158]), (67, .putfield 36, 3, [1472]), (70, .aload_n 0, 1, []), (71, .sipush 400, 3, []), (74, .newarray .int, 2, [158]), (76, .putfield 39, 3, [1474]), (79, .aload_n 0, 1, []), (80, .bipush 24, 2, []), (82, .newarray .int, 2, [158]), (84, .putfield 42, 3, [1475]), (87, .aload_n 0, 1, []), (88, .bipush 6, 2, []), (90, .newarray .int, 2, [158]), (92, .putfield 45, 3, [1476]), (95, .aload_n 0, 1, []), (96, .bipush 6, 2, []), (98, .newarray .int, 2, [158]), (100, .putfield 48, 3, [1477]), (103, .aload_n 0, 1, []), (104, .bipush 6, 2, []), (106, .newarray .int, 2, [158]), (108, .putfield 51, 3, [1478]), (111, .iconst 0, 1, []), (112, .istore_n 1, 1, []), (113, .iload_n 1, 1, []), (114, .bipush 24, 2, []), (116, .if_icmp .ge 19, 3, []), (119, .aload_n 0, 1, []), (120, .getfield 13, 3, [1458]), (123, .bipush 16, 2, []), (125, .iload_n 1, 1, []), (126, .iadd, 1, []), (127, .iconst (-1), 1, []), (128, .iastore, 1, []), (129, .iinc 1 1, 3, []), (132, .goto (-19), 3, []), (135, .aload_n 0, 1, []), (136, .getfield 13, 3, [1458]), (139, .bipush 6, 2, []), (141, .bipush 10, 2, []), (143, .iastore, 1, []), (144, .aload_n 0, 1, []), (145, .getfield 13, 3, [1458]), (148, .bipush 9, 2, []), (150, .iconst (-1), 1, []), (151, .iastore, 1, []), (152, .aload_n 0, 1, []), (153, .getfield 13, 3, [1458]), (156, .bipush 10, 2, []), (158, .iconst 1, 1, []), (159, .iastore, 1, []), (160, .aload_n 0, 1, []), (161, .getfield 13, 3, [1458]), (164, .bipush 11, 2, []), (166, .iconst 2, 1, []), (167, .iastore, 1, []), (168, .aload_n 0, 1, []), (169, .getfield 13, 3, [1458]), (172, .bipush 12, 2, []), (174, .bipush 10, 2, []), (176, .iastore, 1, []), (177, .aload_n 0, 1, []), (178, .getfield 13, 3, [1458]), (181, .bipush 15, 2, []), (183, .iconst 1, 1, []), (184, .iastore, 1, []), (185, .return_, 1, [])]
def z_h179 : List (Nat × Nat × Nat × Nat × Nat × Nat × Nat) := []
def z_m180 : zMi := (RX12, yX12_image, cX12_image, 2, none, [])
def z_c180 : List zI := [(2, 0, 0, 0), (0, 0, 0, 0), (38, 9, 0, 0), (0, 0, 0, 0), (4, 1, 0, 0), (1, 1, 0, 0), (0, 0, 0, 1237), (32, 18, 3, 0), (2, 0, 0, 0), (37, 9, 2, 0), (1, 1, 0, 0), (2, 0, 0, 0), (37, 9, 1, 0), (1, 1, 0, 0), (39, 0, 0, 0), (40, 0, 0, 0), (7, 1, 0, 1), (30, 5, 0, 0), (2, 0, 0, 0), (0, 0, 0, 1), (38, 9, 6, 1), (53, 0, 0, 0)]
def z_i180 : List zJ := [(0, .aload_n 0, 1, []), (1, .iconst 0, 1, []), (2, .putfield 3, 3, [1457]), (5, .iconst 0, 1, []), (6, .istore_n 1, 1, []), (7, .iload_n 1, 1, []), (8, .sipush 1237, 3, []), (11, .if_icmp .ge 21, 3, []), (14, .aload_n 0, 1, []), (15, .getfield 17, 3, [1459]), (18, .iload_n 1, 1, []), (19, .aload_n 0, 1, []), (20, .getfield 13, 3, [1458]), (23, .iload_n 1, 1, []), (24, .iaload, 1, []), (25, .iastore, 1, []), (26, .iinc 1 1, 3, []), (29, .goto (-22), 3, []), (32, .aload_n 0, 1, []), (33, .iconst 1, 1, []), (34, .putfield 54, 3, [1463]), (37, .return_, 1, [])]
def z_h180 : List (Nat × Nat × Nat × Nat × Nat × Nat × Nat) := []
def z_m181 : zMi := (RX12, yX12_back, cX12_back, 2, some .boolean, [])
def z_c181 : List zI := [(2, 0, 0, 0), (0, 0, 0, 0), (38, 9, 0, 0), (2, 0, 0, 0), (37, 9, 6, 0), (31, 8, 1, 0), (0, 0, 0, 0), (50, 0, 0, 0), (0, 0, 0, 0), (4, 1, 0, 0), (1, 1, 0, 0), (0, 0, 0, 1237), (32, 23, 3, 0), (2, 0, 0, 0), (37, 9, 1, 0), (1, 1, 0, 0), (2, 0, 0, 0), (37, 9, 2, 0), (1, 1, 0, 0), (39, 0, 0, 0), (40, 0, 0, 0), (7, 1, 0, 1), (30, 10, 0, 0), (2, 0, 0, 0), (0, 0, 0, 0), (38, 9, 7, 0), (0, 0, 0, 1), (50, 0, 0, 0)]
def z_i181 : List zJ := [(0, .aload_n 0, 1, []), (1, .iconst 0, 1, []), (2, .putfield 3, 3, [1457]), (5, .aload_n 0, 1, []), (6, .getfield 54, 3, [1463]), (9, .ifCond .ne 5, 3, []), (12, .iconst 0, 1, []), (13, .ireturn, 1, []), (14, .iconst 0, 1, []), (15, .istore_n 1, 1, []), (16, .iload_n 1, 1, []), (17, .sipush 1237, 3, []), (20, .if_icmp .ge 21, 3, []), (23, .aload_n 0, 1, []), (24, .getfield 13, 3, [1458]), (27, .iload_n 1, 1, []), (28, .aload_n 0, 1, []), (29, .getfield 17, 3, [1459]), (32, .iload_n 1, 1, []), (33, .iaload, 1, []), (34, .iastore, 1, []), (35, .iinc 1 1, 3, []), (38, .goto (-22), 3, []), (41, .aload_n 0, 1, []), (42, .iconst 0, 1, []), (43, .putfield 58, 3, [1464]), (46, .iconst 1, 1, []), (47, .ireturn, 1, [])]
def z_h181 : List (Nat × Nat × Nat × Nat × Nat × Nat × Nat) := []
def z_m182 : zMi := (RX12, yX12_remembers, cX12_remembers, 2, none, [])
def z_c182 : List zI := [(2, 0, 0, 0), (37, 9, 7, 0), (0, 0, 0, 12), (32, 22, 1, 0), (0, 0, 0, 0), (4, 1, 0, 0), (1, 1, 0, 0), (0, 0, 0, 4268), (32, 21, 3, 0), (2, 0, 0, 0), (37, 9, 5, 0), (1, 1, 0, 0), (2, 0, 0, 0), (37, 9, 5, 0), (1, 1, 0, 0), (0, 0, 0, 388), (8, 0, 0, 0), (39, 0, 0, 0), (40, 0, 0, 0), (7, 1, 0, 1), (30, 6, 0, 0), (30, 28, 0, 0), (2, 0, 0, 0), (27, 0, 0, 0), (37, 9, 7, 0), (0, 0, 0, 1), (8, 0, 0, 0), (38, 9, 7, 0), (0, 0, 0, 0), (4, 1, 0, 0), (1, 1, 0, 0), (0, 0, 0, 388), (32, 50, 3, 0), (2, 0, 0, 0), (37, 9, 5, 0), (0, 0, 0, 388), (2, 0, 0, 0), (37, 9, 7, 0), (0, 0, 0, 1), (9, 0, 0, 0), (10, 0, 0, 0), (1, 1, 0, 0), (8, 0, 0, 0), (2, 0, 0, 0), (37, 9, 1, 0), (1, 1, 0, 0), (39, 0, 0, 0), (40, 0, 0, 0), (7, 1, 0, 1), (30, 30, 0, 0), (53, 0, 0, 0)]
def z_i182 : List zJ := [(0, .aload_n 0, 1, []), (1, .getfield 58, 3, [1464]), (4, .bipush 12, 2, []), (6, .if_icmp .ne 37, 3, []), (9, .iconst 0, 1, []), (10, .istore_n 1, 1, []), (11, .iload_n 1, 1, []), (12, .sipush 4268, 3, []), (15, .if_icmp .ge 25, 3, []), (18, .aload_n 0, 1, []), (19, .getfield 26, 3, [1462]), (22, .iload_n 1, 1, []), (23, .aload_n 0, 1, []), (24, .getfield 26, 3, [1462]), (27, .iload_n 1, 1, []), (28, .sipush 388, 3, []), (31, .iadd, 1, []), (32, .iaload, 1, []), (33, .iastore, 1, []), (34, .iinc 1 1, 3, []), (37, .goto (-26), 3, []), (40, .goto 13, 3, []), (43, .aload_n 0, 1, []), (44, .dup, 1, []), (45, .getfield 58, 3, [1464]), (48, .iconst 1, 1, []), (49, .iadd, 1, []), (50, .putfield 58, 3, [1464]), (53, .iconst 0, 1, []), (54, .istore_n 1, 1, []), (55, .iload_n 1, 1, []), (56, .sipush 388, 3, []), (59, .if_icmp .ge 32, 3, []), (62, .aload_n 0, 1, []), (63, .getfield 26, 3, [1462]), (66, .sipush 388, 3, []), (69, .aload_n 0, 1, []), (70, .getfield 58, 3, [1464]), (73, .iconst 1, 1, []), (74, .isub, 1, []), (75, .imul, 1, []), (76, .iload_n 1, 1, []), (77, .iadd, 1, []), (78, .aload_n 0, 1, []), (79, .getfield 13, 3, [1458]), (82, .iload_n 1, 1, []), (83, .iaload, 1, []), (84, .iastore, 1, []), (85, .iinc 1 1, 3, []), (88, .goto (-33), 3, []), (91, .return_, 1, [])]
def z_h182 : List (Nat × Nat × Nat × Nat × Nat × Nat × Nat) := []
def z_m183 : zMi := (RX12, yX12_undo, cX12_undo, 2, some .boolean, [])
def z_c183 : List zI := [(2, 0, 0, 0), (0, 0, 0, 0), (38, 9, 0, 0), (2, 0, 0, 0), (37, 9, 7, 0), (31, 8, 1, 0), (0, 0, 0, 0), (50, 0, 0, 0), (2, 0, 0, 0), (27, 0, 0, 0), (37, 9, 7, 0), (0, 0, 0, 1), (9, 0, 0, 0), (38, 9, 7, 0), (0, 0, 0, 0), (4, 1, 0, 0), (1, 1, 0, 0), (0, 0, 0, 388), (32, 34, 3, 0), (2, 0, 0, 0), (37, 9, 1, 0), (1, 1, 0, 0), (2, 0, 0, 0), (37, 9, 5, 0), (0, 0, 0, 388), (2, 0, 0, 0), (37, 9, 7, 0), (10, 0, 0, 0), (1, 1, 0, 0), (8, 0, 0, 0), (39, 0, 0, 0), (40, 0, 0, 0), (7, 1, 0, 1), (30, 16, 0, 0), (0, 0, 0, 1), (50, 0, 0, 0)]
def z_i183 : List zJ := [(0, .aload_n 0, 1, []), (1, .iconst 0, 1, []), (2, .putfield 3, 3, [1457]), (5, .aload_n 0, 1, []), (6, .getfield 58, 3, [1464]), (9, .ifCond .ne 5, 3, []), (12, .iconst 0, 1, []), (13, .ireturn, 1, []), (14, .aload_n 0, 1, []), (15, .dup, 1, []), (16, .getfield 58, 3, [1464]), (19, .iconst 1, 1, []), (20, .isub, 1, []), (21, .putfield 58, 3, [1464]), (24, .iconst 0, 1, []), (25, .istore_n 1, 1, []), (26, .iload_n 1, 1, []), (27, .sipush 388, 3, []), (30, .if_icmp .ge 30, 3, []), (33, .aload_n 0, 1, []), (34, .getfield 13, 3, [1458]), (37, .iload_n 1, 1, []), (38, .aload_n 0, 1, []), (39, .getfield 26, 3, [1462]), (42, .sipush 388, 3, []), (45, .aload_n 0, 1, []), (46, .getfield 58, 3, [1464]), (49, .imul, 1, []), (50, .iload_n 1, 1, []), (51, .iadd, 1, []), (52, .iaload, 1, []), (53, .iastore, 1, []), (54, .iinc 1 1, 3, []), (57, .goto (-31), 3, []), (60, .iconst 1, 1, []), (61, .ireturn, 1, [])]
def z_h183 : List (Nat × Nat × Nat × Nat × Nat × Nat × Nat) := []
def z_m184 : zMi := (RX12, yX12_families, cX12_families, 1, some .int, [])
def z_c184 : List zI := [(2, 0, 0, 0), (37, 9, 1, 0), (0, 0, 0, 0), (39, 0, 0, 0), (50, 0, 0, 0)]
def z_i184 : List zJ := [(0, .aload_n 0, 1, []), (1, .getfield 13, 3, [1458]), (4, .iconst 0, 1, []), (5, .iaload, 1, []), (6, .ireturn, 1, [])]
def z_h184 : List (Nat × Nat × Nat × Nat × Nat × Nat × Nat) := []
def z_m185 : zMi := (RX12, yX12_things, cX12_things, 1, some .int, [])
def z_c185 : List zI := [(2, 0, 0, 0), (37, 9, 1, 0), (0, 0, 0, 1), (39, 0, 0, 0), (50, 0, 0, 0)]
def z_i185 : List zJ := [(0, .aload_n 0, 1, []), (1, .getfield 13, 3, [1458]), (4, .iconst 1, 1, []), (5, .iaload, 1, []), (6, .ireturn, 1, [])]
def z_h185 : List (Nat × Nat × Nat × Nat × Nat × Nat × Nat) := []
def z_m186 : zMi := (RX12, yX12_holderOf, cX12_holderOf, 2, some .int, [])
def z_c186 : List zI := [(2, 0, 0, 0), (37, 9, 1, 0), (0, 0, 0, 16), (1, 1, 0, 0), (8, 0, 0, 0), (39, 0, 0, 0), (50, 0, 0, 0)]
def z_i186 : List zJ := [(0, .aload_n 0, 1, []), (1, .getfield 13, 3, [1458]), (4, .bipush 16, 2, []), (6, .iload_n 1, 1, []), (7, .iadd, 1, []), (8, .iaload, 1, []), (9, .ireturn, 1, [])]
def z_h186 : List (Nat × Nat × Nat × Nat × Nat × Nat × Nat) := []
def z_m187 : zMi := (RX12, yX12_nextOf, cX12_nextOf, 1, some .int, [])
def z_c187 : List zI := [(1, 0, 0, 0), (0, 0, 0, 1), (8, 0, 0, 0), (0, 0, 0, 24), (12, 0, 0, 0), (50, 0, 0, 0)]
def z_i187 : List zJ := [(0, .iload_n 0, 1, []), (1, .iconst 1, 1, []), (2, .iadd, 1, []), (3, .bipush 24, 2, []), (5, .irem, 1, []), (6, .ireturn, 1, [])]
def z_h187 : List (Nat × Nat × Nat × Nat × Nat × Nat × Nat) := []
def z_m188 : zMi := (RX12, yX12_inNow, cX12_inNow, 1, some .int, [])
def z_c188 : List zI := [(2, 0, 0, 0), (2, 0, 0, 0), (37, 9, 1, 0), (0, 0, 0, 4), (39, 0, 0, 0), (54, 186, 1, 9), (50, 0, 0, 0)]
def z_i188 : List zJ := [(0, .aload_n 0, 1, []), (1, .aload_n 0, 1, []), (2, .getfield 13, 3, [1458]), (5, .iconst 4, 1, []), (6, .iaload, 1, []), (7, .invokevirtual 61, 3, [1633, 1635, 39, 110, 1636]), (10, .ireturn, 1, [])]
def z_h188 : List (Nat × Nat × Nat × Nat × Nat × Nat × Nat) := []
def z_m189 : zMi := (RX12, yX12_at, cX12_at, 2, some .int, [])
def z_c189 : List zI := [(0, 0, 0, 40), (0, 0, 0, 4), (1, 0, 0, 0), (10, 0, 0, 0), (8, 0, 0, 0), (1, 1, 0, 0), (8, 0, 0, 0), (50, 0, 0, 0)]
def z_i189 : List zJ := [(0, .bipush 40, 2, []), (2, .iconst 4, 1, []), (3, .iload_n 0, 1, []), (4, .imul, 1, []), (5, .iadd, 1, []), (6, .iload_n 1, 1, []), (7, .iadd, 1, []), (8, .ireturn, 1, [])]
def z_h189 : List (Nat × Nat × Nat × Nat × Nat × Nat × Nat) := []
def z_m190 : zMi := (RX12, yX12_of, cX12_of, 3, some .int, [])
def z_c190 : List zI := [(2, 0, 0, 0), (37, 9, 1, 0), (1, 1, 0, 0), (1, 2, 0, 0), (55, 189, 2, 0), (39, 0, 0, 0), (50, 0, 0, 0)]
def z_i190 : List zJ := [(0, .aload_n 0, 1, []), (1, .getfield 13, 3, [1458]), (4, .iload_n 1, 1, []), (5, .iload_n 2, 1, []), (6, .invokestatic 65, 3, [1623, 1624, 110, 1625]), (9, .iaload, 1, []), (10, .ireturn, 1, [])]
def z_h190 : List (Nat × Nat × Nat × Nat × Nat × Nat × Nat) := []
def z_m191 : zMi := (RX12, yX12_wishes, cX12_wishes, 3, some .boolean, [])
def z_c191 : List zI := [(2, 0, 0, 0), (1, 1, 0, 0), (0, 0, 0, 3), (54, 190, 2, 9), (1, 2, 0, 0), (55, 178, 2, 0), (50, 0, 0, 0)]
def z_i191 : List zJ := [(0, .aload_n 0, 1, []), (1, .iload_n 1, 1, []), (2, .iconst 3, 1, []), (3, .invokevirtual 69, 3, [1770, 1772, 62, 110, 1773]), (6, .iload_n 2, 1, []), (7, .invokestatic 72, 3, [1630, 1631, 110, 1632]), (10, .ireturn, 1, [])]
def z_h191 : List (Nat × Nat × Nat × Nat × Nat × Nat × Nat) := []
def z_m192 : zMi := (RX12, yX12_thingAt, cX12_thingAt, 2, some .int, [])
def z_c192 : List zI := [(0, 0, 0, 64), (0, 0, 0, 3), (1, 0, 0, 0), (10, 0, 0, 0), (8, 0, 0, 0), (1, 1, 0, 0), (8, 0, 0, 0), (50, 0, 0, 0)]
def z_i192 : List zJ := [(0, .bipush 64, 2, []), (2, .iconst 3, 1, []), (3, .iload_n 0, 1, []), (4, .imul, 1, []), (5, .iadd, 1, []), (6, .iload_n 1, 1, []), (7, .iadd, 1, []), (8, .ireturn, 1, [])]
def z_h192 : List (Nat × Nat × Nat × Nat × Nat × Nat × Nat) := []
def z_m193 : zMi := (RX12, yX12_ofThing, cX12_ofThing, 3, some .int, [])
def z_c193 : List zI := [(2, 0, 0, 0), (37, 9, 1, 0), (1, 1, 0, 0), (1, 2, 0, 0), (55, 192, 2, 0), (39, 0, 0, 0), (50, 0, 0, 0)]
def z_i193 : List zJ := [(0, .aload_n 0, 1, []), (1, .getfield 13, 3, [1458]), (4, .iload_n 1, 1, []), (5, .iload_n 2, 1, []), (6, .invokestatic 76, 3, [1660, 1661, 110, 1662]), (9, .iaload, 1, []), (10, .ireturn, 1, [])]
def z_h193 : List (Nat × Nat × Nat × Nat × Nat × Nat × Nat) := []
def z_m194 : zMi := (RX12, yX12_isLeft, cX12_isLeft, 2, some .boolean, [])
def z_c194 : List zI := [(2, 0, 0, 0), (1, 1, 0, 0), (0, 0, 0, 2), (54, 193, 2, 9), (0, 0, 0, 1), (32, 8, 1, 0), (0, 0, 0, 1), (30, 9, 0, 0), (0, 0, 0, 0), (50, 0, 0, 0)]
def z_i194 : List zJ := [(0, .aload_n 0, 1, []), (1, .iload_n 1, 1, []), (2, .iconst 2, 1, []), (3, .invokevirtual 79, 3, [1806, 1808, 70, 110, 1809]), (6, .iconst 1, 1, []), (7, .if_icmp .ne 7, 3, []), (10, .iconst 1, 1, []), (11, .goto 4, 3, []), (14, .iconst 0, 1, []), (15, .ireturn, 1, [])]
def z_h194 : List (Nat × Nat × Nat × Nat × Nat × Nat × Nat) := []
def z_m195 : zMi := (RX12, yX12_noFamily, cX12_noFamily, 2, some .boolean, [])
def z_c195 : List zI := [(1, 1, 0, 0), (0, 0, 0, 0), (2, 0, 0, 0), (54, 184, 0, 9), (0, 0, 0, 1), (9, 0, 0, 0), (55, 177, 3, 0), (31, 10, 1, 0), (0, 0, 0, 1), (30, 11, 0, 0), (0, 0, 0, 0), (50, 0, 0, 0)]
def z_i195 : List zJ := [(0, .iload_n 1, 1, []), (1, .iconst 0, 1, []), (2, .aload_n 0, 1, []), (3, .invokevirtual 82, 3, [1594, 1596, 33, 110, 1597]), (6, .iconst 1, 1, []), (7, .isub, 1, []), (8, .invokestatic 86, 3, [1738, 1739, 110, 1740]), (11, .ifCond .ne 7, 3, []), (14, .iconst 1, 1, []), (15, .goto 4, 3, []), (18, .iconst 0, 1, []), (19, .ireturn, 1, [])]
def z_h195 : List (Nat × Nat × Nat × Nat × Nat × Nat × Nat) := []
def z_m196 : zMi := (RX12, yX12_noThing, cX12_noThing, 2, some .boolean, [])
def z_c196 : List zI := [(1, 1, 0, 0), (0, 0, 0, 0), (2, 0, 0, 0), (54, 185, 0, 9), (0, 0, 0, 1), (9, 0, 0, 0), (55, 177, 3, 0), (31, 10, 1, 0), (0, 0, 0, 1), (30, 11, 0, 0), (0, 0, 0, 0), (50, 0, 0, 0)]
def z_i196 : List zJ := [(0, .iload_n 1, 1, []), (1, .iconst 0, 1, []), (2, .aload_n 0, 1, []), (3, .invokevirtual 90, 3, [1655, 1657, 44, 110, 1658]), (6, .iconst 1, 1, []), (7, .isub, 1, []), (8, .invokestatic 86, 3, [1738, 1739, 110, 1740]), (11, .ifCond .ne 7, 3, []), (14, .iconst 1, 1, []), (15, .goto 4, 3, []), (18, .iconst 0, 1, []), (19, .ireturn, 1, [])]
def z_h196 : List (Nat × Nat × Nat × Nat × Nat × Nat × Nat) := []
def z_m197 : zMi := (RX12, yX12_noHour, cX12_noHour, 1, some .boolean, [])
def z_c197 : List zI := [(1, 0, 0, 0), (0, 0, 0, 0), (0, 0, 0, 23), (55, 177, 3, 0), (31, 7, 1, 0), (0, 0, 0, 1), (30, 8, 0, 0), (0, 0, 0, 0), (50, 0, 0, 0)]
def z_i197 : List zJ := [(0, .iload_n 0, 1, []), (1, .iconst 0, 1, []), (2, .bipush 23, 2, []), (4, .invokestatic 86, 3, [1738, 1739, 110, 1740]), (7, .ifCond .ne 7, 3, []), (10, .iconst 1, 1, []), (11, .goto 4, 3, []), (14, .iconst 0, 1, []), (15, .ireturn, 1, [])]
def z_h197 : List (Nat × Nat × Nat × Nat × Nat × Nat × Nat) := []
def z_m198 : zMi := (RX12, yX12_drawn, cX12_drawn, 2, some .int, [])
def z_c198 : List zI := [(2, 0, 0, 0), (37, 9, 1, 0), (0, 0, 0, 15), (0, 0, 0, 1103515245), (2, 0, 0, 0), (37, 9, 1, 0), (0, 0, 0, 15), (39, 0, 0, 0), (10, 0, 0, 0), (0, 0, 0, 12345), (8, 0, 0, 0), (40, 0, 0, 0), (2, 0, 0, 0), (37, 9, 1, 0), (0, 0, 0, 15), (39, 0, 0, 0), (0, 0, 0, 16), (14, 0, 0, 0), (0, 0, 0, 32767), (16, 0, 0, 0), (1, 1, 0, 0), (12, 0, 0, 0), (50, 0, 0, 0)]
def z_i198 : List zJ := [(0, .aload_n 0, 1, []), (1, .getfield 13, 3, [1458]), (4, .bipush 15, 2, []), (6, .ldc 93, 2, [1906]), (8, .aload_n 0, 1, []), (9, .getfield 13, 3, [1458]), (12, .bipush 15, 2, []), (14, .iaload, 1, []), (15, .imul, 1, []), (16, .sipush 12345, 3, []), (19, .iadd, 1, []), (20, .iastore, 1, []), (21, .aload_n 0, 1, []), (22, .getfield 13, 3, [1458]), (25, .bipush 15, 2, []), (27, .iaload, 1, []), (28, .bipush 16, 2, []), (30, .ishr, 1, []), (31, .sipush 32767, 3, []), (34, .iand, 1, []), (35, .iload_n 1, 1, []), (36, .irem, 1, []), (37, .ireturn, 1, [])]
def z_h198 : List (Nat × Nat × Nat × Nat × Nat × Nat × Nat) := []
def z_m199 : zMi := (RX12, yX12_feed, cX12_feed, 7, some .int, [])
def z_c199 : List zI := [(2, 0, 0, 0), (0, 0, 0, 0), (38, 9, 0, 0), (2, 0, 0, 0), (37, 9, 9, 0), (0, 0, 0, 20), (8, 0, 0, 0), (0, 0, 0, 400), (32, 11, 5, 0), (0, 0, 0, -1), (50, 0, 0, 0), (2, 0, 0, 0), (37, 9, 15, 0), (0, 0, 0, 0), (1, 1, 0, 0), (40, 0, 0, 0), (2, 0, 0, 0), (37, 9, 15, 0), (0, 0, 0, 1), (1, 2, 0, 0), (40, 0, 0, 0), (2, 0, 0, 0), (37, 9, 15, 0), (0, 0, 0, 2), (1, 3, 0, 0), (40, 0, 0, 0), (2, 0, 0, 0), (37, 9, 15, 0), (0, 0, 0, 3), (1, 4, 0, 0), (40, 0, 0, 0), (2, 0, 0, 0), (37, 9, 15, 0), (0, 0, 0, 4), (1, 5, 0, 0), (40, 0, 0, 0), (0, 0, 0, 0), (4, 6, 0, 0), (1, 6, 0, 0), (0, 0, 0, 20), (32, 65, 3, 0), (2, 0, 0, 0), (37, 9, 8, 0), (2, 0, 0, 0), (37, 9, 9, 0), (1, 6, 0, 0), (8, 0, 0, 0), (2, 0, 0, 0), (37, 9, 15, 0), (1, 6, 0, 0), (0, 0, 0, 4), (11, 0, 0, 0), (39, 0, 0, 0), (0, 0, 0, 24), (0, 0, 0, 8), (1, 6, 0, 0), (0, 0, 0, 4), (12, 0, 0, 0), (10, 0, 0, 0), (9, 0, 0, 0), (14, 0, 0, 0), (21, 0, 0, 0), (42, 0, 0, 0), (7, 6, 0, 1), (30, 38, 0, 0), (2, 0, 0, 0), (27, 0, 0, 0), (37, 9, 9, 0), (0, 0, 0, 20), (8, 0, 0, 0), (38, 9, 9, 0), (2, 0, 0, 0), (37, 9, 9, 0), (50, 0, 0, 0)]
def z_i199 : List zJ := [(0, .aload_n 0, 1, []), (1, .iconst 0, 1, []), (2, .putfield 3, 3, [1457]), (5, .aload_n 0, 1, []), (6, .getfield 94, 3, [1466]), (9, .bipush 20, 2, []), (11, .iadd, 1, []), (12, .sipush 400, 3, []), (15, .if_icmp .le 5, 3, []), (18, .iconst (-1), 1, []), (19, .ireturn, 1, []), (20, .aload_n 0, 1, []), (21, .getfield 36, 3, [1472]), (24, .iconst 0, 1, []), (25, .iload_n 1, 1, []), (26, .iastore, 1, []), (27, .aload_n 0, 1, []), (28, .getfield 36, 3, [1472]), (31, .iconst 1, 1, []), (32, .iload_n 2, 1, []), (33, .iastore, 1, []), (34, .aload_n 0, 1, []), (35, .getfield 36, 3, [1472]), (38, .iconst 2, 1, []), (39, .iload_n 3, 1, []), (40, .iastore, 1, []), (41, .aload_n 0, 1, []), (42, .getfield 36, 3, [1472]), (45, .iconst 3, 1, []), (46, .iload 4, 2, []), (48, .iastore, 1, []), (49, .aload_n 0, 1, []), (50, .getfield 36, 3, [1472]), (53, .iconst 4, 1, []), (54, .iload 5, 2, []), (56, .iastore, 1, []), (57, .iconst 0, 1, []), (58, .istore 6, 2, []), (60, .iload 6, 2, []), (62, .bipush 20, 2, []), (64, .if_icmp .ge 42, 3, []), (67, .aload_n 0, 1, []), (68, .getfield 29, 3, [1465]), (71, .aload_n 0, 1, []), (72, .getfield 94, 3, [1466]), (75, .iload 6, 2, []), (77, .iadd, 1, []), (78, .aload_n 0, 1, []), (79, .getfield 36, 3, [1472]), (82, .iload 6, 2, []), (84, .iconst 4, 1, []), (85, .idiv, 1, []), (86, .iaload, 1, []), (87, .bipush 24, 2, []), (89, .bipush 8, 2, []), (91, .iload 6, 2, []), (93, .iconst 4, 1, []), (94, .irem, 1, []), (95, .imul, 1, []), (96, .isub, 1, []), (97, .ishr, 1, []), (98, .i2b, 1, []), (99, .bastore, 1, []), (100, .iinc 6 1, 3, []), (103, .goto (-43), 3, []), (106, .aload_n 0, 1, []), (107, .dup, 1, []), (108, .getfield 94, 3, [1466]), (111, .bipush 20, 2, []), (113, .iadd, 1, []), (114, .putfield 94, 3, [1466]), (117, .aload_n 0, 1, []), (118, .getfield 94, 3, [1466]), (121, .ireturn, 1, [])]
def z_h199 : List (Nat × Nat × Nat × Nat × Nat × Nat × Nat) := []
def z_m200 : zMi := (RX12, yX12_end, cX12_end, 2, some .boolean, [])
def z_c200 : List zI := [(2, 0, 0, 0), (0, 0, 0, 0), (38, 9, 0, 0), (1, 1, 0, 0), (31, 9, 2, 0), (1, 1, 0, 0), (2, 0, 0, 0), (37, 9, 9, 0), (32, 11, 5, 0), (0, 0, 0, 0), (50, 0, 0, 0), (2, 0, 0, 0), (1, 1, 0, 0), (38, 9, 9, 0), (0, 0, 0, 1), (50, 0, 0, 0)]
def z_i200 : List zJ := [(0, .aload_n 0, 1, []), (1, .iconst 0, 1, []), (2, .putfield 3, 3, [1457]), (5, .iload_n 1, 1, []), (6, .ifCond .lt 11, 3, []), (9, .iload_n 1, 1, []), (10, .aload_n 0, 1, []), (11, .getfield 94, 3, [1466]), (14, .if_icmp .le 5, 3, []), (17, .iconst 0, 1, []), (18, .ireturn, 1, []), (19, .aload_n 0, 1, []), (20, .iload_n 1, 1, []), (21, .putfield 94, 3, [1466]), (24, .iconst 1, 1, []), (25, .ireturn, 1, [])]
def z_h200 : List (Nat × Nat × Nat × Nat × Nat × Nat × Nat) := []
def z_m201 : zMi := (RX12, yX12_isAt, cX12_isAt, 3, some .boolean, [])
def z_c201 : List zI := [(2, 0, 0, 0), (37, 9, 10, 0), (2, 0, 0, 0), (37, 9, 11, 0), (32, 21, 3, 0), (2, 0, 0, 0), (37, 9, 8, 0), (2, 0, 0, 0), (37, 9, 10, 0), (41, 0, 0, 0), (1, 1, 0, 0), (32, 21, 2, 0), (2, 0, 0, 0), (37, 9, 8, 0), (2, 0, 0, 0), (37, 9, 10, 0), (41, 0, 0, 0), (1, 2, 0, 0), (32, 21, 4, 0), (0, 0, 0, 1), (30, 22, 0, 0), (0, 0, 0, 0), (50, 0, 0, 0)]
def z_i201 : List zJ := [(0, .aload_n 0, 1, []), (1, .getfield 97, 3, [1467]), (4, .aload_n 0, 1, []), (5, .getfield 100, 3, [1468]), (8, .if_icmp .ge 33, 3, []), (11, .aload_n 0, 1, []), (12, .getfield 29, 3, [1465]), (15, .aload_n 0, 1, []), (16, .getfield 97, 3, [1467]), (19, .baload, 1, []), (20, .iload_n 1, 1, []), (21, .if_icmp .lt 20, 3, []), (24, .aload_n 0, 1, []), (25, .getfield 29, 3, [1465]), (28, .aload_n 0, 1, []), (29, .getfield 97, 3, [1467]), (32, .baload, 1, []), (33, .iload_n 2, 1, []), (34, .if_icmp .gt 7, 3, []), (37, .iconst 1, 1, []), (38, .goto 4, 3, []), (41, .iconst 0, 1, []), (42, .ireturn, 1, [])]
def z_h201 : List (Nat × Nat × Nat × Nat × Nat × Nat × Nat) := []
def z_m202 : zMi := (RX12, yX12_blanks, cX12_blanks, 1, none, [])
def z_c202 : List zI := [(2, 0, 0, 0), (0, 0, 0, 32), (0, 0, 0, 32), (54, 201, 2, 9), (31, 12, 0, 0), (2, 0, 0, 0), (27, 0, 0, 0), (37, 9, 10, 0), (0, 0, 0, 1), (8, 0, 0, 0), (38, 9, 10, 0), (30, 0, 0, 0), (2, 0, 0, 0), (2, 0, 0, 0), (37, 9, 10, 0), (38, 9, 12, 0), (53, 0, 0, 0)]
def z_i202 : List zJ := [(0, .aload_n 0, 1, []), (1, .bipush 32, 2, []), (3, .bipush 32, 2, []), (5, .invokevirtual 103, 3, [1567, 1569, 27, 110, 1570]), (8, .ifCond .eq 16, 3, []), (11, .aload_n 0, 1, []), (12, .dup, 1, []), (13, .getfield 97, 3, [1467]), (16, .iconst 1, 1, []), (17, .iadd, 1, []), (18, .putfield 97, 3, [1467]), (21, .goto (-21), 3, []), (24, .aload_n 0, 1, []), (25, .aload_n 0, 1, []), (26, .getfield 97, 3, [1467]), (29, .putfield 106, 3, [1469]), (32, .return_, 1, [])]
def z_h202 : List (Nat × Nat × Nat × Nat × Nat × Nat × Nat) := []
def z_m203 : zMi := (RX12, yX12_letters, cX12_letters, 1, none, [])
def z_c203 : List zI := [(2, 0, 0, 0), (54, 202, 0, 9), (2, 0, 0, 0), (0, 0, 0, 97), (0, 0, 0, 122), (54, 201, 2, 9), (31, 14, 0, 0), (2, 0, 0, 0), (27, 0, 0, 0), (37, 9, 10, 0), (0, 0, 0, 1), (8, 0, 0, 0), (38, 9, 10, 0), (30, 2, 0, 0), (53, 0, 0, 0)]
def z_i203 : List zJ := [(0, .aload_n 0, 1, []), (1, .invokevirtual 109, 3, [1563, 1565, 26, 110, 1566]), (4, .aload_n 0, 1, []), (5, .bipush 97, 2, []), (7, .bipush 122, 2, []), (9, .invokevirtual 103, 3, [1567, 1569, 27, 110, 1570]), (12, .ifCond .eq 16, 3, []), (15, .aload_n 0, 1, []), (16, .dup, 1, []), (17, .getfield 97, 3, [1467]), (20, .iconst 1, 1, []), (21, .iadd, 1, []), (22, .putfield 97, 3, [1467]), (25, .goto (-21), 3, []), (28, .return_, 1, [])]
def z_h203 : List (Nat × Nat × Nat × Nat × Nat × Nat × Nat) := []
def z_m204 : zMi := (RX12, yX12_isWord, cX12_isWord, 4, some .boolean, [])
def z_c204 : List zI := [(2, 0, 0, 0), (37, 9, 10, 0), (2, 0, 0, 0), (37, 9, 12, 0), (9, 0, 0, 0), (2, 1, 0, 0), (59, 0, 0, 0), (32, 10, 1, 0), (0, 0, 0, 1), (30, 11, 0, 0), (0, 0, 0, 0), (4, 2, 0, 0), (0, 0, 0, 0), (4, 3, 0, 0), (1, 2, 0, 0), (31, 37, 0, 0), (1, 3, 0, 0), (2, 1, 0, 0), (59, 0, 0, 0), (32, 37, 3, 0), (2, 0, 0, 0), (37, 9, 8, 0), (2, 0, 0, 0), (37, 9, 12, 0), (1, 3, 0, 0), (8, 0, 0, 0), (41, 0, 0, 0), (2, 1, 0, 0), (1, 3, 0, 0), (60, 0, 0, 0), (32, 33, 1, 0), (0, 0, 0, 1), (30, 34, 0, 0), (0, 0, 0, 0), (4, 2, 0, 0), (7, 3, 0, 1), (30, 14, 0, 0), (1, 2, 0, 0), (50, 0, 0, 0)]
def z_i204 : List zJ := [(0, .aload_n 0, 1, []), (1, .getfield 97, 3, [1467]), (4, .aload_n 0, 1, []), (5, .getfield 106, 3, [1469]), (8, .isub, 1, []), (9, .aload_n 1, 1, []), (10, .invokevirtual 112, 3, [1588]), (13, .if_icmp .ne 7, 3, []), (16, .iconst 1, 1, []), (17, .goto 4, 3, []), (20, .iconst 0, 1, []), (21, .istore_n 2, 1, []), (22, .iconst 0, 1, []), (23, .istore_n 3, 1, []), (24, .iload_n 2, 1, []), (25, .ifCond .eq 42, 3, []), (28, .iload_n 3, 1, []), (29, .aload_n 1, 1, []), (30, .invokevirtual 112, 3, [1588]), (33, .if_icmp .ge 34, 3, []), (36, .aload_n 0, 1, []), (37, .getfield 29, 3, [1465]), (40, .aload_n 0, 1, []), (41, .getfield 106, 3, [1469]), (44, .iload_n 3, 1, []), (45, .iadd, 1, []), (46, .baload, 1, []), (47, .aload_n 1, 1, []), (48, .iload_n 3, 1, []), (49, .invokevirtual 117, 3, [1589]), (52, .if_icmp .ne 7, 3, []), (55, .iconst 1, 1, []), (56, .goto 4, 3, []), (59, .iconst 0, 1, []), (60, .istore_n 2, 1, []), (61, .iinc 3 1, 3, []), (64, .goto (-40), 3, []), (67, .iload_n 2, 1, []), (68, .ireturn, 1, [])]
def z_h204 : List (Nat × Nat × Nat × Nat × Nat × Nat × Nat) := []
def z_m205 : zMi := (RX12, yX12_passes, cX12_passes, 2, some .boolean, [])
def z_c205 : List zI := [(2, 0, 0, 0), (54, 203, 0, 9), (2, 0, 0, 0), (2, 1, 0, 0), (54, 204, 1, 9), (31, 8, 0, 0), (0, 0, 0, 1), (50, 0, 0, 0), (2, 0, 0, 0), (2, 0, 0, 0), (37, 9, 12, 0), (38, 9, 10, 0), (0, 0, 0, 0), (50, 0, 0, 0)]
def z_i205 : List zJ := [(0, .aload_n 0, 1, []), (1, .invokevirtual 121, 3, [1575, 1577, 29, 110, 1578]), (4, .aload_n 0, 1, []), (5, .aload_n 1, 1, []), (6, .invokevirtual 124, 3, [1584, 1586, 31, 110, 1587]), (9, .ifCond .eq 5, 3, []), (12, .iconst 1, 1, []), (13, .ireturn, 1, []), (14, .aload_n 0, 1, []), (15, .aload_n 0, 1, []), (16, .getfield 106, 3, [1469]), (19, .putfield 97, 3, [1467]), (22, .iconst 0, 1, []), (23, .ireturn, 1, [])]
def z_h205 : List (Nat × Nat × Nat × Nat × Nat × Nat × Nat) := []
def z_m206 : zMi := (RX12, yX12_sign, cX12_sign, 2, some .boolean, [])
def z_c206 : List zI := [(2, 0, 0, 0), (54, 202, 0, 9), (2, 0, 0, 0), (1, 1, 0, 0), (1, 1, 0, 0), (54, 201, 2, 9), (31, 9, 1, 0), (0, 0, 0, 0), (50, 0, 0, 0), (2, 0, 0, 0), (27, 0, 0, 0), (37, 9, 10, 0), (0, 0, 0, 1), (8, 0, 0, 0), (38, 9, 10, 0), (0, 0, 0, 1), (50, 0, 0, 0)]
def z_i206 : List zJ := [(0, .aload_n 0, 1, []), (1, .invokevirtual 109, 3, [1563, 1565, 26, 110, 1566]), (4, .aload_n 0, 1, []), (5, .iload_n 1, 1, []), (6, .iload_n 1, 1, []), (7, .invokevirtual 103, 3, [1567, 1569, 27, 110, 1570]), (10, .ifCond .ne 5, 3, []), (13, .iconst 0, 1, []), (14, .ireturn, 1, []), (15, .aload_n 0, 1, []), (16, .dup, 1, []), (17, .getfield 97, 3, [1467]), (20, .iconst 1, 1, []), (21, .iadd, 1, []), (22, .putfield 97, 3, [1467]), (25, .iconst 1, 1, []), (26, .ireturn, 1, [])]
def z_h206 : List (Nat × Nat × Nat × Nat × Nat × Nat × Nat) := []
def z_m207 : zMi := (RX12, yX12_number, cX12_number, 4, some .int, [])
def z_c207 : List zI := [(2, 0, 0, 0), (54, 202, 0, 9), (0, 0, 0, 0), (4, 3, 0, 0), (2, 0, 0, 0), (0, 0, 0, 48), (0, 0, 0, 57), (54, 201, 2, 9), (31, 37, 0, 0), (2, 0, 0, 0), (37, 9, 10, 0), (2, 0, 0, 0), (37, 9, 12, 0), (9, 0, 0, 0), (0, 0, 0, 3), (32, 28, 3, 0), (0, 0, 0, 10), (1, 3, 0, 0), (10, 0, 0, 0), (2, 0, 0, 0), (37, 9, 8, 0), (2, 0, 0, 0), (37, 9, 10, 0), (41, 0, 0, 0), (8, 0, 0, 0), (0, 0, 0, 48), (9, 0, 0, 0), (30, 29, 0, 0), (1, 3, 0, 0), (4, 3, 0, 0), (2, 0, 0, 0), (27, 0, 0, 0), (37, 9, 10, 0), (0, 0, 0, 1), (8, 0, 0, 0), (38, 9, 10, 0), (30, 4, 0, 0), (2, 0, 0, 0), (37, 9, 10, 0), (2, 0, 0, 0), (37, 9, 12, 0), (32, 55, 0, 0), (2, 0, 0, 0), (37, 9, 10, 0), (2, 0, 0, 0), (37, 9, 12, 0), (9, 0, 0, 0), (0, 0, 0, 3), (32, 55, 4, 0), (1, 3, 0, 0), (1, 1, 0, 0), (32, 55, 2, 0), (1, 3, 0, 0), (1, 2, 0, 0), (32, 57, 5, 0), (0, 0, 0, -1), (30, 58, 0, 0), (1, 3, 0, 0), (50, 0, 0, 0)]
def z_i207 : List zJ := [(0, .aload_n 0, 1, []), (1, .invokevirtual 109, 3, [1563, 1565, 26, 110, 1566]), (4, .iconst 0, 1, []), (5, .istore_n 3, 1, []), (6, .aload_n 0, 1, []), (7, .bipush 48, 2, []), (9, .bipush 57, 2, []), (11, .invokevirtual 103, 3, [1567, 1569, 27, 110, 1570]), (14, .ifCond .eq 51, 3, []), (17, .aload_n 0, 1, []), (18, .getfield 97, 3, [1467]), (21, .aload_n 0, 1, []), (22, .getfield 106, 3, [1469]), (25, .isub, 1, []), (26, .iconst 3, 1, []), (27, .if_icmp .ge 23, 3, []), (30, .bipush 10, 2, []), (32, .iload_n 3, 1, []), (33, .imul, 1, []), (34, .aload_n 0, 1, []), (35, .getfield 29, 3, [1465]), (38, .aload_n 0, 1, []), (39, .getfield 97, 3, [1467]), (42, .baload, 1, []), (43, .iadd, 1, []), (44, .bipush 48, 2, []), (46, .isub, 1, []), (47, .goto 4, 3, []), (50, .iload_n 3, 1, []), (51, .istore_n 3, 1, []), (52, .aload_n 0, 1, []), (53, .dup, 1, []), (54, .getfield 97, 3, [1467]), (57, .iconst 1, 1, []), (58, .iadd, 1, []), (59, .putfield 97, 3, [1467]), (62, .goto (-56), 3, []), (65, .aload_n 0, 1, []), (66, .getfield 97, 3, [1467]), (69, .aload_n 0, 1, []), (70, .getfield 106, 3, [1469]), (73, .if_icmp .eq 26, 3, []), (76, .aload_n 0, 1, []), (77, .getfield 97, 3, [1467]), (80, .aload_n 0, 1, []), (81, .getfield 106, 3, [1469]), (84, .isub, 1, []), (85, .iconst 3, 1, []), (86, .if_icmp .gt 13, 3, []), (89, .iload_n 3, 1, []), (90, .iload_n 1, 1, []), (91, .if_icmp .lt 8, 3, []), (94, .iload_n 3, 1, []), (95, .iload_n 2, 1, []), (96, .if_icmp .le 7, 3, []), (99, .iconst (-1), 1, []), (100, .goto 4, 3, []), (103, .iload_n 3, 1, []), (104, .ireturn, 1, [])]
def z_h207 : List (Nat × Nat × Nat × Nat × Nat × Nat × Nat) := []
def z_m208 : zMi := (RX12, yX12_after, cX12_after, 4, some .int, [])
def z_c208 : List zI := [(2, 0, 0, 0), (54, 203, 0, 9), (2, 0, 0, 0), (2, 1, 0, 0), (54, 204, 1, 9), (31, 11, 0, 0), (2, 0, 0, 0), (1, 2, 0, 0), (1, 3, 0, 0), (54, 207, 2, 9), (30, 12, 0, 0), (0, 0, 0, -1), (50, 0, 0, 0)]
def z_i208 : List zJ := [(0, .aload_n 0, 1, []), (1, .invokevirtual 121, 3, [1575, 1577, 29, 110, 1578]), (4, .aload_n 0, 1, []), (5, .aload_n 1, 1, []), (6, .invokevirtual 124, 3, [1584, 1586, 31, 110, 1587]), (9, .ifCond .eq 12, 3, []), (12, .aload_n 0, 1, []), (13, .iload_n 2, 1, []), (14, .iload_n 3, 1, []), (15, .invokevirtual 128, 3, [1603, 1605, 35, 110, 1606]), (18, .goto 4, 3, []), (21, .iconst (-1), 1, []), (22, .ireturn, 1, [])]
def z_h208 : List (Nat × Nat × Nat × Nat × Nat × Nat × Nat) := []
def z_m209 : zMi := (RX12, yX12_fault, cX12_fault, 1, some .int, [])
def z_c209 : List zI := [(2, 0, 0, 0), (0, 0, 0, 0), (38, 9, 0, 0), (2, 0, 0, 0), (37, 9, 14, 0), (50, 0, 0, 0)]
def z_i209 : List zJ := [(0, .aload_n 0, 1, []), (1, .iconst 0, 1, []), (2, .putfield 3, 3, [1457]), (5, .aload_n 0, 1, []), (6, .getfield 33, 3, [1471]), (9, .ireturn, 1, [])]
def z_h209 : List (Nat × Nat × Nat × Nat × Nat × Nat × Nat) := []
def z_m210 : zMi := (RX12, yX12_uses, cX12_uses, 1, none, [])
def z_c210 : List zI := [(2, 0, 0, 0), (0, 0, 0, 0), (38, 9, 0, 0), (2, 0, 0, 0), (2, 0, 0, 0), (37, 9, 9, 0), (38, 9, 11, 0), (2, 0, 0, 0), (0, 0, 0, 0), (38, 9, 9, 0), (2, 0, 0, 0), (0, 0, 0, 0), (38, 9, 10, 0), (53, 0, 0, 0)]
def z_i210 : List zJ := [(0, .aload_n 0, 1, []), (1, .iconst 0, 1, []), (2, .putfield 3, 3, [1457]), (5, .aload_n 0, 1, []), (6, .aload_n 0, 1, []), (7, .getfield 94, 3, [1466]), (10, .putfield 100, 3, [1468]), (13, .aload_n 0, 1, []), (14, .iconst 0, 1, []), (15, .putfield 94, 3, [1466]), (18, .aload_n 0, 1, []), (19, .iconst 0, 1, []), (20, .putfield 97, 3, [1467]), (23, .return_, 1, [])]
def z_h210 : List (Nat × Nat × Nat × Nat × Nat × Nat × Nat) := []
def z_m211 : zMi := (RX12, yX12_readNumber, cX12_readNumber, 5, some .boolean, [])
def z_c211 : List zI := [(2, 0, 0, 0), (1, 2, 0, 0), (1, 3, 0, 0), (54, 207, 2, 9), (4, 4, 0, 0), (2, 0, 0, 0), (37, 9, 1, 0), (1, 1, 0, 0), (1, 4, 0, 0), (31, 15, 3, 0), (2, 0, 0, 0), (37, 9, 1, 0), (1, 1, 0, 0), (39, 0, 0, 0), (30, 16, 0, 0), (1, 4, 0, 0), (40, 0, 0, 0), (1, 4, 0, 0), (31, 21, 2, 0), (0, 0, 0, 1), (30, 22, 0, 0), (0, 0, 0, 0), (50, 0, 0, 0)]
def z_i211 : List zJ := [(0, .aload_n 0, 1, []), (1, .iload_n 2, 1, []), (2, .iload_n 3, 1, []), (3, .invokevirtual 128, 3, [1603, 1605, 35, 110, 1606]), (6, .istore 4, 2, []), (8, .aload_n 0, 1, []), (9, .getfield 13, 3, [1458]), (12, .iload_n 1, 1, []), (13, .iload 4, 2, []), (15, .ifCond .ge 12, 3, []), (18, .aload_n 0, 1, []), (19, .getfield 13, 3, [1458]), (22, .iload_n 1, 1, []), (23, .iaload, 1, []), (24, .goto 5, 3, []), (27, .iload 4, 2, []), (29, .iastore, 1, []), (30, .iload 4, 2, []), (32, .ifCond .lt 7, 3, []), (35, .iconst 1, 1, []), (36, .goto 4, 3, []), (39, .iconst 0, 1, []), (40, .ireturn, 1, [])]
def z_h211 : List (Nat × Nat × Nat × Nat × Nat × Nat × Nat) := []
def z_m212 : zMi := (RX12, yX12_hoursTold, cX12_hoursTold, 5, some .int, [])
def z_c212 : List zI := [(2, 0, 0, 0), (0, 0, 0, 0), (0, 0, 0, 23), (54, 207, 2, 9), (4, 1, 0, 0), (1, 1, 0, 0), (31, 9, 3, 0), (0, 0, 0, -1), (30, 14, 0, 0), (2, 0, 0, 0), (58, 42, 0, 0), (0, 0, 0, 0), (0, 0, 0, 23), (54, 208, 3, 9), (4, 2, 0, 0), (1, 2, 0, 0), (31, 19, 3, 0), (0, 0, 0, -1), (50, 0, 0, 0), (0, 0, 0, 1), (1, 2, 0, 0), (13, 0, 0, 0), (4, 3, 0, 0), (1, 1, 0, 0), (4, 4, 0, 0), (1, 4, 0, 0), (1, 2, 0, 0), (32, 38, 0, 0), (1, 3, 0, 0), (0, 0, 0, 1), (1, 4, 0, 0), (13, 0, 0, 0), (17, 0, 0, 0), (4, 3, 0, 0), (1, 4, 0, 0), (55, 187, 1, 0), (4, 4, 0, 0), (30, 25, 0, 0), (1, 3, 0, 0), (50, 0, 0, 0)]
def z_i212 : List zJ := [(0, .aload_n 0, 1, []), (1, .iconst 0, 1, []), (2, .bipush 23, 2, []), (4, .invokevirtual 128, 3, [1603, 1605, 35, 110, 1606]), (7, .istore_n 1, 1, []), (8, .iload_n 1, 1, []), (9, .ifCond .ge 7, 3, []), (12, .iconst (-1), 1, []), (13, .goto 12, 3, []), (16, .aload_n 0, 1, []), (17, .ldc 131, 2, []), (19, .iconst 0, 1, []), (20, .bipush 23, 2, []), (22, .invokevirtual 133, 3, [1599, 1601, 34, 110, 1602]), (25, .istore_n 2, 1, []), (26, .iload_n 2, 1, []), (27, .ifCond .ge 5, 3, []), (30, .iconst (-1), 1, []), (31, .ireturn, 1, []), (32, .iconst 1, 1, []), (33, .iload_n 2, 1, []), (34, .ishl, 1, []), (35, .istore_n 3, 1, []), (36, .iload_n 1, 1, []), (37, .istore 4, 2, []), (39, .iload 4, 2, []), (41, .iload_n 2, 1, []), (42, .if_icmp .eq 20, 3, []), (45, .iload_n 3, 1, []), (46, .iconst 1, 1, []), (47, .iload 4, 2, []), (49, .ishl, 1, []), (50, .ior, 1, []), (51, .istore_n 3, 1, []), (52, .iload 4, 2, []), (54, .invokestatic 137, 3, [1619, 1620, 110, 1621]), (57, .istore 4, 2, []), (59, .goto (-20), 3, []), (62, .iload_n 3, 1, []), (63, .ireturn, 1, [])]
def z_h212 : List (Nat × Nat × Nat × Nat × Nat × Nat × Nat) := []
def z_m213 : zMi := (RX12, yX12_gives, cX12_gives, 4, none, [])
def z_c213 : List zI := [(0, 0, 0, 0), (4, 3, 0, 0), (1, 3, 0, 0), (0, 0, 0, 24), (32, 22, 3, 0), (2, 0, 0, 0), (37, 9, 1, 0), (0, 0, 0, 16), (1, 3, 0, 0), (8, 0, 0, 0), (1, 1, 0, 0), (1, 3, 0, 0), (55, 178, 2, 0), (31, 16, 0, 0), (1, 2, 0, 0), (30, 19, 0, 0), (2, 0, 0, 0), (1, 3, 0, 0), (54, 186, 1, 9), (40, 0, 0, 0), (7, 3, 0, 1), (30, 2, 0, 0), (53, 0, 0, 0)]
def z_i213 : List zJ := [(0, .iconst 0, 1, []), (1, .istore_n 3, 1, []), (2, .iload_n 3, 1, []), (3, .bipush 24, 2, []), (5, .if_icmp .ge 35, 3, []), (8, .aload_n 0, 1, []), (9, .getfield 13, 3, [1458]), (12, .bipush 16, 2, []), (14, .iload_n 3, 1, []), (15, .iadd, 1, []), (16, .iload_n 1, 1, []), (17, .iload_n 3, 1, []), (18, .invokestatic 72, 3, [1630, 1631, 110, 1632]), (21, .ifCond .eq 7, 3, []), (24, .iload_n 2, 1, []), (25, .goto 8, 3, []), (28, .aload_n 0, 1, []), (29, .iload_n 3, 1, []), (30, .invokevirtual 61, 3, [1633, 1635, 39, 110, 1636]), (33, .iastore, 1, []), (34, .iinc 3 1, 3, []), (37, .goto (-35), 3, []), (40, .return_, 1, [])]
def z_h213 : List (Nat × Nat × Nat × Nat × Nat × Nat × Nat) := []
def z_m214 : zMi := (RX12, yX12_readFamily, cX12_readFamily, 7, some .boolean, [])
def z_c214 : List zI := [(2, 0, 0, 0), (54, 184, 0, 9), (4, 1, 0, 0), (1, 1, 0, 0), (0, 0, 0, 6), (32, 8, 1, 0), (0, 0, 0, 0), (50, 0, 0, 0), (2, 0, 0, 0), (58, 43, 0, 0), (0, 0, 0, 0), (0, 0, 0, 999), (54, 208, 3, 9), (4, 2, 0, 0), (1, 2, 0, 0), (31, 18, 3, 0), (0, 0, 0, -1), (30, 23, 0, 0), (2, 0, 0, 0), (58, 44, 0, 0), (0, 0, 0, 0), (0, 0, 0, 9), (54, 208, 3, 9), (4, 3, 0, 0), (1, 3, 0, 0), (31, 28, 3, 0), (0, 0, 0, -1), (30, 33, 0, 0), (2, 0, 0, 0), (58, 45, 0, 0), (0, 0, 0, 0), (0, 0, 0, 9), (54, 208, 3, 9), (4, 4, 0, 0), (1, 4, 0, 0), (31, 38, 3, 0), (0, 0, 0, 0), (50, 0, 0, 0), (2, 0, 0, 0), (58, 46, 0, 0), (54, 205, 1, 9), (31, 45, 0, 0), (2, 0, 0, 0), (54, 212, 0, 9), (30, 46, 0, 0), (0, 0, 0, 0), (4, 5, 0, 0), (1, 5, 0, 0), (31, 51, 3, 0), (0, 0, 0, 0), (50, 0, 0, 0), (2, 0, 0, 0), (58, 47, 0, 0), (54, 205, 1, 9), (31, 58, 0, 0), (2, 0, 0, 0), (54, 212, 0, 9), (30, 59, 0, 0), (0, 0, 0, 0), (4, 6, 0, 0), (1, 6, 0, 0), (31, 64, 3, 0), (0, 0, 0, 0), (50, 0, 0, 0), (2, 0, 0, 0), (37, 9, 1, 0), (1, 1, 0, 0), (0, 0, 0, 0), (55, 189, 2, 0), (1, 2, 0, 0), (40, 0, 0, 0), (2, 0, 0, 0), (37, 9, 1, 0), (1, 1, 0, 0), (0, 0, 0, 1), (55, 189, 2, 0), (1, 3, 0, 0), (40, 0, 0, 0), (2, 0, 0, 0), (37, 9, 1, 0), (1, 1, 0, 0), (0, 0, 0, 2), (55, 189, 2, 0), (1, 4, 0, 0), (40, 0, 0, 0), (2, 0, 0, 0), (37, 9, 1, 0), (1, 1, 0, 0), (0, 0, 0, 3), (55, 189, 2, 0), (1, 6, 0, 0), (40, 0, 0, 0), (2, 0, 0, 0), (1, 5, 0, 0), (1, 1, 0, 0), (54, 213, 2, 9), (2, 0, 0, 0), (37, 9, 1, 0), (0, 0, 0, 0), (28, 0, 0, 0), (39, 0, 0, 0), (0, 0, 0, 1), (8, 0, 0, 0), (40, 0, 0, 0), (0, 0, 0, 1), (50, 0, 0, 0)]
def z_i214 : List zJ := [(0, .aload_n 0, 1, []), (1, .invokevirtual 82, 3, [1594, 1596, 33, 110, 1597]), (4, .istore_n 1, 1, []), (5, .iload_n 1, 1, []), (6, .bipush 6, 2, []), (8, .if_icmp .ne 5, 3, []), (11, .iconst 0, 1, []), (12, .ireturn, 1, []), (13, .aload_n 0, 1, []), (14, .ldc 140, 2, []), (16, .iconst 0, 1, []), (17, .sipush 999, 3, []), (20, .invokevirtual 133, 3, [1599, 1601, 34, 110, 1602]), (23, .istore_n 2, 1, []), (24, .iload_n 2, 1, []), (25, .ifCond .ge 7, 3, []), (28, .iconst (-1), 1, []), (29, .goto 12, 3, []), (32, .aload_n 0, 1, []), (33, .ldc 142, 2, []), (35, .iconst 0, 1, []), (36, .bipush 9, 2, []), (38, .invokevirtual 133, 3, [1599, 1601, 34, 110, 1602]), (41, .istore_n 3, 1, []), (42, .iload_n 3, 1, []), (43, .ifCond .ge 7, 3, []), (46, .iconst (-1), 1, []), (47, .goto 12, 3, []), (50, .aload_n 0, 1, []), (51, .ldc 144, 2, []), (53, .iconst 0, 1, []), (54, .bipush 9, 2, []), (56, .invokevirtual 133, 3, [1599, 1601, 34, 110, 1602]), (59, .istore 4, 2, []), (61, .iload 4, 2, []), (63, .ifCond .ge 5, 3, []), (66, .iconst 0, 1, []), (67, .ireturn, 1, []), (68, .aload_n 0, 1, []), (69, .ldc 146, 2, []), (71, .invokevirtual 148, 3, [1610, 1612, 36, 110, 1613]), (74, .ifCond .eq 10, 3, []), (77, .aload_n 0, 1, []), (78, .invokevirtual 151, 3, [1614, 1616, 37, 110, 1617]), (81, .goto 4, 3, []), (84, .iconst 0, 1, []), (85, .istore 5, 2, []), (87, .iload 5, 2, []), (89, .ifCond .ge 5, 3, []), (92, .iconst 0, 1, []), (93, .ireturn, 1, []), (94, .aload_n 0, 1, []), (95, .ldc 154, 2, []), (97, .invokevirtual 148, 3, [1610, 1612, 36, 110, 1613]), (100, .ifCond .eq 10, 3, []), (103, .aload_n 0, 1, []), (104, .invokevirtual 151, 3, [1614, 1616, 37, 110, 1617]), (107, .goto 4, 3, []), (110, .iconst 0, 1, []), (111, .istore 6, 2, []), (113, .iload 6, 2, []), (115, .ifCond .ge 5, 3, []), (118, .iconst 0, 1, []), (119, .ireturn, 1, []), (120, .aload_n 0, 1, []), (121, .getfield 13, 3, [1458]), (124, .iload_n 1, 1, []), (125, .iconst 0, 1, []), (126, .invokestatic 65, 3, [1623, 1624, 110, 1625]), (129, .iload_n 2, 1, []), (130, .iastore, 1, []), (131, .aload_n 0, 1, []), (132, .getfield 13, 3, [1458]), (135, .iload_n 1, 1, []), (136, .iconst 1, 1, []), (137, .invokestatic 65, 3, [1623, 1624, 110, 1625]), (140, .iload_n 3, 1, []), (141, .iastore, 1, []), (142, .aload_n 0, 1, []), (143, .getfield 13, 3, [1458]), (146, .iload_n 1, 1, []), (147, .iconst 2, 1, []), (148, .invokestatic 65, 3, [1623, 1624, 110, 1625]), (151, .iload 4, 2, []), (153, .iastore, 1, []), (154, .aload_n 0, 1, []), (155, .getfield 13, 3, [1458]), (158, .iload_n 1, 1, []), (159, .iconst 3, 1, []), (160, .invokestatic 65, 3, [1623, 1624, 110, 1625]), (163, .iload 6, 2, []), (165, .iastore, 1, []), (166, .aload_n 0, 1, []), (167, .iload 5, 2, []), (169, .iload_n 1, 1, []), (170, .invokevirtual 156, 3, [1626, 1628, 38, 110, 1629]), (173, .aload_n 0, 1, []), (174, .getfield 13, 3, [1458]), (177, .iconst 0, 1, []), (178, .dup2, 1, []), (179, .iaload, 1, []), (180, .iconst 1, 1, []), (181, .iadd, 1, []), (182, .iastore, 1, []), (183, .iconst 1, 1, []), (184, .ireturn, 1, [])]
def z_h214 : List (Nat × Nat × Nat × Nat × Nat × Nat × Nat) := []
def z_m215 : zMi := (RX12, yX12_familyTold, cX12_familyTold, 1, some .int, [])
def z_c215 : List zI := [(2, 0, 0, 0), (0, 0, 0, 0), (2, 0, 0, 0), (54, 184, 0, 9), (0, 0, 0, 1), (9, 0, 0, 0), (54, 207, 2, 9), (50, 0, 0, 0)]
def z_i215 : List zJ := [(0, .aload_n 0, 1, []), (1, .iconst 0, 1, []), (2, .aload_n 0, 1, []), (3, .invokevirtual 82, 3, [1594, 1596, 33, 110, 1597]), (6, .iconst 1, 1, []), (7, .isub, 1, []), (8, .invokevirtual 128, 3, [1603, 1605, 35, 110, 1606]), (11, .ireturn, 1, [])]
def z_h215 : List (Nat × Nat × Nat × Nat × Nat × Nat × Nat) := []
def z_m216 : zMi := (RX12, yX12_readHours, cX12_readHours, 3, some .boolean, [])
def z_c216 : List zI := [(2, 0, 0, 0), (54, 215, 0, 9), (4, 1, 0, 0), (1, 1, 0, 0), (31, 7, 3, 0), (0, 0, 0, -1), (30, 9, 0, 0), (2, 0, 0, 0), (54, 212, 0, 9), (4, 2, 0, 0), (1, 2, 0, 0), (31, 16, 2, 0), (2, 0, 0, 0), (1, 2, 0, 0), (1, 1, 0, 0), (54, 213, 2, 9), (1, 2, 0, 0), (31, 20, 2, 0), (0, 0, 0, 1), (30, 21, 0, 0), (0, 0, 0, 0), (50, 0, 0, 0)]
def z_i216 : List zJ := [(0, .aload_n 0, 1, []), (1, .invokevirtual 160, 3, [1641, 1643, 41, 110, 1644]), (4, .istore_n 1, 1, []), (5, .iload_n 1, 1, []), (6, .ifCond .ge 7, 3, []), (9, .iconst (-1), 1, []), (10, .goto 7, 3, []), (13, .aload_n 0, 1, []), (14, .invokevirtual 151, 3, [1614, 1616, 37, 110, 1617]), (17, .istore_n 2, 1, []), (18, .iload_n 2, 1, []), (19, .ifCond .lt 9, 3, []), (22, .aload_n 0, 1, []), (23, .iload_n 2, 1, []), (24, .iload_n 1, 1, []), (25, .invokevirtual 156, 3, [1626, 1628, 38, 110, 1629]), (28, .iload_n 2, 1, []), (29, .ifCond .lt 7, 3, []), (32, .iconst 1, 1, []), (33, .goto 4, 3, []), (36, .iconst 0, 1, []), (37, .ireturn, 1, [])]
def z_h216 : List (Nat × Nat × Nat × Nat × Nat × Nat × Nat) := []
def z_m217 : zMi := (RX12, yX12_readFree, cX12_readFree, 2, some .boolean, [])
def z_c217 : List zI := [(2, 0, 0, 0), (54, 212, 0, 9), (4, 1, 0, 0), (1, 1, 0, 0), (31, 9, 2, 0), (2, 0, 0, 0), (1, 1, 0, 0), (0, 0, 0, -1), (54, 213, 2, 9), (1, 1, 0, 0), (31, 13, 2, 0), (0, 0, 0, 1), (30, 14, 0, 0), (0, 0, 0, 0), (50, 0, 0, 0)]
def z_i217 : List zJ := [(0, .aload_n 0, 1, []), (1, .invokevirtual 151, 3, [1614, 1616, 37, 110, 1617]), (4, .istore_n 1, 1, []), (5, .iload_n 1, 1, []), (6, .ifCond .lt 9, 3, []), (9, .aload_n 0, 1, []), (10, .iload_n 1, 1, []), (11, .iconst (-1), 1, []), (12, .invokevirtual 156, 3, [1626, 1628, 38, 110, 1629]), (15, .iload_n 1, 1, []), (16, .ifCond .lt 7, 3, []), (19, .iconst 1, 1, []), (20, .goto 4, 3, []), (23, .iconst 0, 1, []), (24, .ireturn, 1, [])]
def z_h217 : List (Nat × Nat × Nat × Nat × Nat × Nat × Nat) := []
def z_m218 : zMi := (RX12, yX12_readWishes, cX12_readWishes, 3, some .boolean, [])
def z_c218 : List zI := [(2, 0, 0, 0), (54, 215, 0, 9), (4, 1, 0, 0), (1, 1, 0, 0), (31, 7, 3, 0), (0, 0, 0, -1), (30, 9, 0, 0), (2, 0, 0, 0), (54, 212, 0, 9), (4, 2, 0, 0), (1, 2, 0, 0), (31, 22, 2, 0), (2, 0, 0, 0), (37, 9, 1, 0), (1, 1, 0, 0), (0, 0, 0, 3), (55, 189, 2, 0), (28, 0, 0, 0), (39, 0, 0, 0), (1, 2, 0, 0), (17, 0, 0, 0), (40, 0, 0, 0), (1, 2, 0, 0), (31, 26, 2, 0), (0, 0, 0, 1), (30, 27, 0, 0), (0, 0, 0, 0), (50, 0, 0, 0)]
def z_i218 : List zJ := [(0, .aload_n 0, 1, []), (1, .invokevirtual 160, 3, [1641, 1643, 41, 110, 1644]), (4, .istore_n 1, 1, []), (5, .iload_n 1, 1, []), (6, .ifCond .ge 7, 3, []), (9, .iconst (-1), 1, []), (10, .goto 7, 3, []), (13, .aload_n 0, 1, []), (14, .invokevirtual 151, 3, [1614, 1616, 37, 110, 1617]), (17, .istore_n 2, 1, []), (18, .iload_n 2, 1, []), (19, .ifCond .lt 17, 3, []), (22, .aload_n 0, 1, []), (23, .getfield 13, 3, [1458]), (26, .iload_n 1, 1, []), (27, .iconst 3, 1, []), (28, .invokestatic 65, 3, [1623, 1624, 110, 1625]), (31, .dup2, 1, []), (32, .iaload, 1, []), (33, .iload_n 2, 1, []), (34, .ior, 1, []), (35, .iastore, 1, []), (36, .iload_n 2, 1, []), (37, .ifCond .lt 7, 3, []), (40, .iconst 1, 1, []), (41, .goto 4, 3, []), (44, .iconst 0, 1, []), (45, .ireturn, 1, [])]
def z_h218 : List (Nat × Nat × Nat × Nat × Nat × Nat × Nat) := []
def z_m219 : zMi := (RX12, yX12_readThing, cX12_readThing, 4, some .boolean, [])
def z_c219 : List zI := [(2, 0, 0, 0), (54, 185, 0, 9), (4, 1, 0, 0), (1, 1, 0, 0), (0, 0, 0, 8), (32, 8, 1, 0), (0, 0, 0, 0), (50, 0, 0, 0), (2, 0, 0, 0), (54, 215, 0, 9), (4, 2, 0, 0), (1, 2, 0, 0), (31, 15, 3, 0), (0, 0, 0, -1), (30, 20, 0, 0), (2, 0, 0, 0), (58, 48, 0, 0), (0, 0, 0, 1), (0, 0, 0, 9), (54, 208, 3, 9), (4, 3, 0, 0), (1, 3, 0, 0), (31, 25, 3, 0), (0, 0, 0, 0), (50, 0, 0, 0), (2, 0, 0, 0), (37, 9, 1, 0), (1, 1, 0, 0), (0, 0, 0, 0), (55, 192, 2, 0), (1, 2, 0, 0), (40, 0, 0, 0), (2, 0, 0, 0), (37, 9, 1, 0), (1, 1, 0, 0), (0, 0, 0, 1), (55, 192, 2, 0), (1, 3, 0, 0), (40, 0, 0, 0), (2, 0, 0, 0), (37, 9, 1, 0), (1, 1, 0, 0), (0, 0, 0, 2), (55, 192, 2, 0), (2, 0, 0, 0), (58, 49, 0, 0), (54, 205, 1, 9), (31, 50, 0, 0), (0, 0, 0, 1), (30, 51, 0, 0), (0, 0, 0, 0), (40, 0, 0, 0), (2, 0, 0, 0), (37, 9, 1, 0), (0, 0, 0, 1), (28, 0, 0, 0), (39, 0, 0, 0), (0, 0, 0, 1), (8, 0, 0, 0), (40, 0, 0, 0), (0, 0, 0, 1), (50, 0, 0, 0)]
def z_i219 : List zJ := [(0, .aload_n 0, 1, []), (1, .invokevirtual 90, 3, [1655, 1657, 44, 110, 1658]), (4, .istore_n 1, 1, []), (5, .iload_n 1, 1, []), (6, .bipush 8, 2, []), (8, .if_icmp .ne 5, 3, []), (11, .iconst 0, 1, []), (12, .ireturn, 1, []), (13, .aload_n 0, 1, []), (14, .invokevirtual 160, 3, [1641, 1643, 41, 110, 1644]), (17, .istore_n 2, 1, []), (18, .iload_n 2, 1, []), (19, .ifCond .ge 7, 3, []), (22, .iconst (-1), 1, []), (23, .goto 12, 3, []), (26, .aload_n 0, 1, []), (27, .ldc 163, 2, []), (29, .iconst 1, 1, []), (30, .bipush 9, 2, []), (32, .invokevirtual 133, 3, [1599, 1601, 34, 110, 1602]), (35, .istore_n 3, 1, []), (36, .iload_n 3, 1, []), (37, .ifCond .ge 5, 3, []), (40, .iconst 0, 1, []), (41, .ireturn, 1, []), (42, .aload_n 0, 1, []), (43, .getfield 13, 3, [1458]), (46, .iload_n 1, 1, []), (47, .iconst 0, 1, []), (48, .invokestatic 76, 3, [1660, 1661, 110, 1662]), (51, .iload_n 2, 1, []), (52, .iastore, 1, []), (53, .aload_n 0, 1, []), (54, .getfield 13, 3, [1458]), (57, .iload_n 1, 1, []), (58, .iconst 1, 1, []), (59, .invokestatic 76, 3, [1660, 1661, 110, 1662]), (62, .iload_n 3, 1, []), (63, .iastore, 1, []), (64, .aload_n 0, 1, []), (65, .getfield 13, 3, [1458]), (68, .iload_n 1, 1, []), (69, .iconst 2, 1, []), (70, .invokestatic 76, 3, [1660, 1661, 110, 1662]), (73, .aload_n 0, 1, []), (74, .ldc 165, 2, []), (76, .invokevirtual 148, 3, [1610, 1612, 36, 110, 1613]), (79, .ifCond .eq 7, 3, []), (82, .iconst 1, 1, []), (83, .goto 4, 3, []), (86, .iconst 0, 1, []), (87, .iastore, 1, []), (88, .aload_n 0, 1, []), (89, .getfield 13, 3, [1458]), (92, .iconst 1, 1, []), (93, .dup2, 1, []), (94, .iaload, 1, []), (95, .iconst 1, 1, []), (96, .iadd, 1, []), (97, .iastore, 1, []), (98, .iconst 1, 1, []), (99, .ireturn, 1, [])]
def z_h219 : List (Nat × Nat × Nat × Nat × Nat × Nat × Nat) := []
def z_m220 : zMi := (RX12, yX12_readDeedLine, cX12_readDeedLine, 1, some .boolean, [])
def z_c220 : List zI := [(2, 0, 0, 0), (58, 50, 0, 0), (54, 204, 1, 9), (31, 7, 0, 0), (2, 0, 0, 0), (54, 214, 0, 9), (50, 0, 0, 0), (2, 0, 0, 0), (58, 46, 0, 0), (54, 204, 1, 9), (31, 14, 0, 0), (2, 0, 0, 0), (54, 216, 0, 9), (50, 0, 0, 0), (2, 0, 0, 0), (58, 51, 0, 0), (54, 204, 1, 9), (31, 21, 0, 0), (2, 0, 0, 0), (54, 217, 0, 9), (50, 0, 0, 0), (2, 0, 0, 0), (58, 52, 0, 0), (54, 204, 1, 9), (31, 28, 0, 0), (2, 0, 0, 0), (54, 219, 0, 9), (50, 0, 0, 0), (2, 0, 0, 0), (58, 47, 0, 0), (54, 204, 1, 9), (31, 35, 0, 0), (2, 0, 0, 0), (54, 218, 0, 9), (50, 0, 0, 0), (2, 0, 0, 0), (58, 53, 0, 0), (54, 204, 1, 9), (31, 45, 0, 0), (2, 0, 0, 0), (0, 0, 0, 10), (0, 0, 0, 0), (0, 0, 0, 9), (54, 211, 3, 9), (50, 0, 0, 0), (2, 0, 0, 0), (58, 54, 0, 0), (54, 204, 1, 9), (31, 55, 0, 0), (2, 0, 0, 0), (0, 0, 0, 11), (0, 0, 0, 0), (0, 0, 0, 20), (54, 211, 3, 9), (50, 0, 0, 0), (2, 0, 0, 0), (58, 55, 0, 0), (54, 204, 1, 9), (31, 65, 0, 0), (2, 0, 0, 0), (0, 0, 0, 12), (0, 0, 0, 0), (0, 0, 0, 99), (54, 211, 3, 9), (50, 0, 0, 0), (2, 0, 0, 0), (58, 56, 0, 0), (54, 204, 1, 9), (31, 75, 0, 0), (2, 0, 0, 0), (0, 0, 0, 13), (0, 0, 0, 0), (0, 0, 0, 100), (54, 211, 3, 9), (50, 0, 0, 0), (2, 0, 0, 0), (58, 57, 0, 0), (54, 204, 1, 9), (31, 87, 0, 0), (2, 0, 0, 0), (0, 0, 0, 4), (0, 0, 0, 0), (0, 0, 0, 23), (54, 211, 3, 9), (31, 87, 0, 0), (0, 0, 0, 1), (30, 88, 0, 0), (0, 0, 0, 0), (50, 0, 0, 0)]
def z_i220 : List zJ := [(0, .aload_n 0, 1, []), (1, .ldc 167, 2, []), (3, .invokevirtual 124, 3, [1584, 1586, 31, 110, 1587]), (6, .ifCond .eq 8, 3, []), (9, .aload_n 0, 1, []), (10, .invokevirtual 169, 3, [1590, 1592, 32, 110, 1593]), (13, .ireturn, 1, []), (14, .aload_n 0, 1, []), (15, .ldc 146, 2, []), (17, .invokevirtual 124, 3, [1584, 1586, 31, 110, 1587]), (20, .ifCond .eq 8, 3, []), (23, .aload_n 0, 1, []), (24, .invokevirtual 173, 3, [1637, 1639, 40, 110, 1640]), (27, .ireturn, 1, []), (28, .aload_n 0, 1, []), (29, .ldc 176, 2, []), (31, .invokevirtual 124, 3, [1584, 1586, 31, 110, 1587]), (34, .ifCond .eq 8, 3, []), (37, .aload_n 0, 1, []), (38, .invokevirtual 178, 3, [1646, 1648, 42, 110, 1649]), (41, .ireturn, 1, []), (42, .aload_n 0, 1, []), (43, .ldc 181, 2, []), (45, .invokevirtual 124, 3, [1584, 1586, 31, 110, 1587]), (48, .ifCond .eq 8, 3, []), (51, .aload_n 0, 1, []), (52, .invokevirtual 183, 3, [1651, 1653, 43, 110, 1654]), (55, .ireturn, 1, []), (56, .aload_n 0, 1, []), (57, .ldc 154, 2, []), (59, .invokevirtual 124, 3, [1584, 1586, 31, 110, 1587]), (62, .ifCond .eq 8, 3, []), (65, .aload_n 0, 1, []), (66, .invokevirtual 186, 3, [1664, 1666, 45, 110, 1667]), (69, .ireturn, 1, []), (70, .aload_n 0, 1, []), (71, .ldc 189, 2, []), (73, .invokevirtual 124, 3, [1584, 1586, 31, 110, 1587]), (76, .ifCond .eq 13, 3, []), (79, .aload_n 0, 1, []), (80, .bipush 10, 2, []), (82, .iconst 0, 1, []), (83, .bipush 9, 2, []), (85, .invokevirtual 191, 3, [1669, 1671, 46, 110, 1672]), (88, .ireturn, 1, []), (89, .aload_n 0, 1, []), (90, .ldc 194, 2, []), (92, .invokevirtual 124, 3, [1584, 1586, 31, 110, 1587]), (95, .ifCond .eq 13, 3, []), (98, .aload_n 0, 1, []), (99, .bipush 11, 2, []), (101, .iconst 0, 1, []), (102, .bipush 20, 2, []), (104, .invokevirtual 191, 3, [1669, 1671, 46, 110, 1672]), (107, .ireturn, 1, []), (108, .aload_n 0, 1, []), (109, .ldc 196, 2, []), (111, .invokevirtual 124, 3, [1584, 1586, 31, 110, 1587]), (114, .ifCond .eq 13, 3, []), (117, .aload_n 0, 1, []), (118, .bipush 12, 2, []), (120, .iconst 0, 1, []), (121, .bipush 99, 2, []), (123, .invokevirtual 191, 3, [1669, 1671, 46, 110, 1672]), (126, .ireturn, 1, []), (127, .aload_n 0, 1, []), (128, .ldc 198, 2, []), (130, .invokevirtual 124, 3, [1584, 1586, 31, 110, 1587]), (133, .ifCond .eq 13, 3, []), (136, .aload_n 0, 1, []), (137, .bipush 13, 2, []), (139, .iconst 0, 1, []), (140, .bipush 100, 2, []), (142, .invokevirtual 191, 3, [1669, 1671, 46, 110, 1672]), (145, .ireturn, 1, []), (146, .aload_n 0, 1, []), (147, .ldc 200, 2, []), (149, .invokevirtual 124, 3, [1584, 1586, 31, 110, 1587]), (152, .ifCond .eq 18, 3, []), (155, .aload_n 0, 1, []), (156, .iconst 4, 1, []), (157, .iconst 0, 1, []), (158, .bipush 23, 2, []), (160, .invokevirtual 191, 3, [1669, 1671, 46, 110, 1672]), (163, .ifCond .eq 7, 3, []), (166, .iconst 1, 1, []), (167, .goto 4, 3, []), (170, .iconst 0, 1, []), (171, .ireturn, 1, [])]
def z_h220 : List (Nat × Nat × Nat × Nat × Nat × Nat × Nat) := []
def z_m221 : zMi := (RX12, yX12_emits, cX12_emits, 3, none, [])
def z_c221 : List zI := [(2, 0, 0, 0), (37, 9, 1, 0), (0, 0, 0, 1286), (0, 0, 0, 2), (2, 0, 0, 0), (37, 9, 16, 0), (10, 0, 0, 0), (8, 0, 0, 0), (1, 1, 0, 0), (40, 0, 0, 0), (2, 0, 0, 0), (37, 9, 1, 0), (0, 0, 0, 1286), (0, 0, 0, 2), (2, 0, 0, 0), (37, 9, 16, 0), (10, 0, 0, 0), (8, 0, 0, 0), (0, 0, 0, 1), (8, 0, 0, 0), (1, 2, 0, 0), (40, 0, 0, 0), (2, 0, 0, 0), (27, 0, 0, 0), (37, 9, 16, 0), (0, 0, 0, 1), (8, 0, 0, 0), (38, 9, 16, 0), (53, 0, 0, 0)]
def z_i221 : List zJ := [(0, .aload_n 0, 1, []), (1, .getfield 13, 3, [1458]), (4, .sipush 1286, 3, []), (7, .iconst 2, 1, []), (8, .aload_n 0, 1, []), (9, .getfield 202, 3, [1473]), (12, .imul, 1, []), (13, .iadd, 1, []), (14, .iload_n 1, 1, []), (15, .iastore, 1, []), (16, .aload_n 0, 1, []), (17, .getfield 13, 3, [1458]), (20, .sipush 1286, 3, []), (23, .iconst 2, 1, []), (24, .aload_n 0, 1, []), (25, .getfield 202, 3, [1473]), (28, .imul, 1, []), (29, .iadd, 1, []), (30, .iconst 1, 1, []), (31, .iadd, 1, []), (32, .iload_n 2, 1, []), (33, .iastore, 1, []), (34, .aload_n 0, 1, []), (35, .dup, 1, []), (36, .getfield 202, 3, [1473]), (39, .iconst 1, 1, []), (40, .iadd, 1, []), (41, .putfield 202, 3, [1473]), (44, .return_, 1, [])]
def z_h221 : List (Nat × Nat × Nat × Nat × Nat × Nat × Nat) := []
def z_m222 : zMi := (RX12, yX12_readPart, cX12_readPart, 2, some .boolean, [])
def z_c222 : List zI := [(2, 0, 0, 0), (54, 203, 0, 9), (2, 0, 0, 0), (37, 9, 10, 0), (2, 0, 0, 0), (37, 9, 12, 0), (32, 17, 1, 0), (2, 0, 0, 0), (0, 0, 0, 0), (0, 0, 0, 999), (54, 207, 2, 9), (4, 1, 0, 0), (2, 0, 0, 0), (0, 0, 0, 8), (1, 1, 0, 0), (54, 221, 2, 9), (30, 59, 0, 0), (2, 0, 0, 0), (58, 50, 0, 0), (54, 204, 1, 9), (31, 23, 0, 0), (0, 0, 0, 0), (30, 54, 0, 0), (2, 0, 0, 0), (58, 57, 0, 0), (54, 204, 1, 9), (31, 29, 0, 0), (0, 0, 0, 1), (30, 54, 0, 0), (2, 0, 0, 0), (58, 58, 0, 0), (54, 204, 1, 9), (31, 35, 0, 0), (0, 0, 0, 2), (30, 54, 0, 0), (2, 0, 0, 0), (58, 59, 0, 0), (54, 204, 1, 9), (31, 41, 0, 0), (0, 0, 0, 3), (30, 54, 0, 0), (2, 0, 0, 0), (58, 60, 0, 0), (54, 204, 1, 9), (31, 47, 0, 0), (0, 0, 0, 4), (30, 54, 0, 0), (2, 0, 0, 0), (58, 49, 0, 0), (54, 204, 1, 9), (31, 53, 0, 0), (0, 0, 0, 5), (30, 54, 0, 0), (0, 0, 0, -1), (4, 1, 0, 0), (2, 0, 0, 0), (1, 1, 0, 0), (0, 0, 0, 0), (54, 221, 2, 9), (1, 1, 0, 0), (31, 63, 2, 0), (0, 0, 0, 1), (30, 64, 0, 0), (0, 0, 0, 0), (50, 0, 0, 0)]
def z_i222 : List zJ := [(0, .aload_n 0, 1, []), (1, .invokevirtual 121, 3, [1575, 1577, 29, 110, 1578]), (4, .aload_n 0, 1, []), (5, .getfield 97, 3, [1467]), (8, .aload_n 0, 1, []), (9, .getfield 106, 3, [1469]), (12, .if_icmp .ne 22, 3, []), (15, .aload_n 0, 1, []), (16, .iconst 0, 1, []), (17, .sipush 999, 3, []), (20, .invokevirtual 128, 3, [1603, 1605, 35, 110, 1606]), (23, .istore_n 1, 1, []), (24, .aload_n 0, 1, []), (25, .bipush 8, 2, []), (27, .iload_n 1, 1, []), (28, .invokevirtual 205, 3, [1700, 1702, 52, 110, 1703]), (31, .goto 89, 3, []), (34, .aload_n 0, 1, []), (35, .ldc 167, 2, []), (37, .invokevirtual 124, 3, [1584, 1586, 31, 110, 1587]), (40, .ifCond .eq 7, 3, []), (43, .iconst 0, 1, []), (44, .goto 69, 3, []), (47, .aload_n 0, 1, []), (48, .ldc 200, 2, []), (50, .invokevirtual 124, 3, [1584, 1586, 31, 110, 1587]), (53, .ifCond .eq 7, 3, []), (56, .iconst 1, 1, []), (57, .goto 56, 3, []), (60, .aload_n 0, 1, []), (61, .ldc 208, 2, []), (63, .invokevirtual 124, 3, [1584, 1586, 31, 110, 1587]), (66, .ifCond .eq 7, 3, []), (69, .iconst 2, 1, []), (70, .goto 43, 3, []), (73, .aload_n 0, 1, []), (74, .ldc 210, 2, []), (76, .invokevirtual 124, 3, [1584, 1586, 31, 110, 1587]), (79, .ifCond .eq 7, 3, []), (82, .iconst 3, 1, []), (83, .goto 30, 3, []), (86, .aload_n 0, 1, []), (87, .ldc 212, 2, []), (89, .invokevirtual 124, 3, [1584, 1586, 31, 110, 1587]), (92, .ifCond .eq 7, 3, []), (95, .iconst 4, 1, []), (96, .goto 17, 3, []), (99, .aload_n 0, 1, []), (100, .ldc 165, 2, []), (102, .invokevirtual 124, 3, [1584, 1586, 31, 110, 1587]), (105, .ifCond .eq 7, 3, []), (108, .iconst 5, 1, []), (109, .goto 4, 3, []), (112, .iconst (-1), 1, []), (113, .istore_n 1, 1, []), (114, .aload_n 0, 1, []), (115, .iload_n 1, 1, []), (116, .iconst 0, 1, []), (117, .invokevirtual 205, 3, [1700, 1702, 52, 110, 1703]), (120, .iload_n 1, 1, []), (121, .ifCond .lt 7, 3, []), (124, .iconst 1, 1, []), (125, .goto 4, 3, []), (128, .iconst 0, 1, []), (129, .ireturn, 1, [])]
def z_h222 : List (Nat × Nat × Nat × Nat × Nat × Nat × Nat) := []
def z_m223 : zMi := (RX12, yX12_readSum, cX12_readSum, 1, some .boolean, [])
def z_c223 : List zI := [(2, 0, 0, 0), (54, 222, 0, 9), (31, 5, 1, 0), (0, 0, 0, 0), (50, 0, 0, 0), (2, 0, 0, 0), (0, 0, 0, 43), (54, 206, 1, 9), (31, 19, 0, 0), (2, 0, 0, 0), (54, 222, 0, 9), (31, 14, 1, 0), (0, 0, 0, 0), (50, 0, 0, 0), (2, 0, 0, 0), (0, 0, 0, 9), (0, 0, 0, 0), (54, 221, 2, 9), (30, 5, 0, 0), (0, 0, 0, 1), (50, 0, 0, 0)]
def z_i223 : List zJ := [(0, .aload_n 0, 1, []), (1, .invokevirtual 214, 3, [1714, 1716, 55, 110, 1717]), (4, .ifCond .ne 5, 3, []), (7, .iconst 0, 1, []), (8, .ireturn, 1, []), (9, .aload_n 0, 1, []), (10, .bipush 43, 2, []), (12, .invokevirtual 217, 3, [1695, 1697, 51, 110, 1698]), (15, .ifCond .eq 22, 3, []), (18, .aload_n 0, 1, []), (19, .invokevirtual 214, 3, [1714, 1716, 55, 110, 1717]), (22, .ifCond .ne 5, 3, []), (25, .iconst 0, 1, []), (26, .ireturn, 1, []), (27, .aload_n 0, 1, []), (28, .bipush 9, 2, []), (30, .iconst 0, 1, []), (31, .invokevirtual 205, 3, [1700, 1702, 52, 110, 1703]), (34, .goto (-25), 3, []), (37, .iconst 1, 1, []), (38, .ireturn, 1, [])]
def z_h223 : List (Nat × Nat × Nat × Nat × Nat × Nat × Nat) := []
def z_m224 : zMi := (RX12, yX12_readTag, cX12_readTag, 2, some .boolean, [])
def z_c224 : List zI := [(2, 0, 0, 0), (54, 203, 0, 9), (2, 0, 0, 0), (58, 61, 0, 0), (54, 204, 1, 9), (31, 8, 0, 0), (0, 0, 0, 6), (30, 15, 0, 0), (2, 0, 0, 0), (58, 62, 0, 0), (54, 204, 1, 9), (31, 14, 0, 0), (0, 0, 0, 7), (30, 15, 0, 0), (0, 0, 0, -1), (4, 1, 0, 0), (1, 1, 0, 0), (31, 23, 2, 0), (2, 0, 0, 0), (1, 1, 0, 0), (0, 0, 0, 0), (54, 221, 2, 9), (30, 27, 0, 0), (2, 0, 0, 0), (2, 0, 0, 0), (37, 9, 12, 0), (38, 9, 10, 0), (1, 1, 0, 0), (31, 31, 2, 0), (0, 0, 0, 1), (30, 32, 0, 0), (0, 0, 0, 0), (50, 0, 0, 0)]
def z_i224 : List zJ := [(0, .aload_n 0, 1, []), (1, .invokevirtual 121, 3, [1575, 1577, 29, 110, 1578]), (4, .aload_n 0, 1, []), (5, .ldc 221, 2, []), (7, .invokevirtual 124, 3, [1584, 1586, 31, 110, 1587]), (10, .ifCond .eq 8, 3, []), (13, .bipush 6, 2, []), (15, .goto 18, 3, []), (18, .aload_n 0, 1, []), (19, .ldc 223, 2, []), (21, .invokevirtual 124, 3, [1584, 1586, 31, 110, 1587]), (24, .ifCond .eq 8, 3, []), (27, .bipush 7, 2, []), (29, .goto 4, 3, []), (32, .iconst (-1), 1, []), (33, .istore_n 1, 1, []), (34, .iload_n 1, 1, []), (35, .ifCond .lt 12, 3, []), (38, .aload_n 0, 1, []), (39, .iload_n 1, 1, []), (40, .iconst 0, 1, []), (41, .invokevirtual 205, 3, [1700, 1702, 52, 110, 1703]), (44, .goto 11, 3, []), (47, .aload_n 0, 1, []), (48, .aload_n 0, 1, []), (49, .getfield 106, 3, [1469]), (52, .putfield 97, 3, [1467]), (55, .iload_n 1, 1, []), (56, .ifCond .lt 7, 3, []), (59, .iconst 1, 1, []), (60, .goto 4, 3, []), (63, .iconst 0, 1, []), (64, .ireturn, 1, [])]
def z_h224 : List (Nat × Nat × Nat × Nat × Nat × Nat × Nat) := []
def z_m225 : zMi := (RX12, yX12_readAtom, cX12_readAtom, 2, some .boolean, [])
def z_c225 : List zI := [(2, 0, 0, 0), (0, 0, 0, 40), (54, 206, 1, 9), (31, 31, 0, 0), (2, 0, 0, 0), (37, 9, 13, 0), (0, 0, 0, 6), (32, 10, 1, 0), (0, 0, 0, 0), (50, 0, 0, 0), (2, 0, 0, 0), (27, 0, 0, 0), (37, 9, 13, 0), (0, 0, 0, 1), (8, 0, 0, 0), (38, 9, 13, 0), (2, 0, 0, 0), (54, 227, 0, 9), (31, 21, 1, 0), (0, 0, 0, 0), (50, 0, 0, 0), (2, 0, 0, 0), (27, 0, 0, 0), (37, 9, 13, 0), (0, 0, 0, 1), (9, 0, 0, 0), (38, 9, 13, 0), (2, 0, 0, 0), (0, 0, 0, 41), (54, 206, 1, 9), (50, 0, 0, 0), (2, 0, 0, 0), (58, 63, 0, 0), (54, 205, 1, 9), (31, 64, 0, 0), (2, 0, 0, 0), (37, 9, 13, 0), (0, 0, 0, 6), (32, 41, 1, 0), (0, 0, 0, 0), (50, 0, 0, 0), (2, 0, 0, 0), (27, 0, 0, 0), (37, 9, 13, 0), (0, 0, 0, 1), (8, 0, 0, 0), (38, 9, 13, 0), (2, 0, 0, 0), (54, 225, 0, 9), (31, 52, 1, 0), (0, 0, 0, 0), (50, 0, 0, 0), (2, 0, 0, 0), (27, 0, 0, 0), (37, 9, 13, 0), (0, 0, 0, 1), (9, 0, 0, 0), (38, 9, 13, 0), (2, 0, 0, 0), (0, 0, 0, 12), (0, 0, 0, 0), (54, 221, 2, 9), (0, 0, 0, 1), (50, 0, 0, 0), (2, 0, 0, 0), (54, 224, 0, 9), (31, 69, 0, 0), (0, 0, 0, 1), (50, 0, 0, 0), (2, 0, 0, 0), (54, 223, 0, 9), (31, 74, 1, 0), (0, 0, 0, 0), (50, 0, 0, 0), (2, 0, 0, 0), (0, 0, 0, 60), (54, 206, 1, 9), (4, 1, 0, 0), (1, 1, 0, 0), (31, 84, 1, 0), (2, 0, 0, 0), (0, 0, 0, 62), (54, 206, 1, 9), (31, 87, 0, 0), (2, 0, 0, 0), (54, 223, 0, 9), (31, 89, 1, 0), (0, 0, 0, 0), (50, 0, 0, 0), (2, 0, 0, 0), (1, 1, 0, 0), (31, 94, 0, 0), (0, 0, 0, 10), (30, 95, 0, 0), (0, 0, 0, 11), (0, 0, 0, 0), (54, 221, 2, 9), (0, 0, 0, 1), (50, 0, 0, 0)]
def z_i225 : List zJ := [(0, .aload_n 0, 1, []), (1, .bipush 40, 2, []), (3, .invokevirtual 217, 3, [1695, 1697, 51, 110, 1698]), (6, .ifCond .eq 50, 3, []), (9, .aload_n 0, 1, []), (10, .getfield 225, 3, [1470]), (13, .bipush 6, 2, []), (15, .if_icmp .ne 5, 3, []), (18, .iconst 0, 1, []), (19, .ireturn, 1, []), (20, .aload_n 0, 1, []), (21, .dup, 1, []), (22, .getfield 225, 3, [1470]), (25, .iconst 1, 1, []), (26, .iadd, 1, []), (27, .putfield 225, 3, [1470]), (30, .aload_n 0, 1, []), (31, .invokevirtual 228, 3, [1683, 1685, 48, 110, 1686]), (34, .ifCond .ne 5, 3, []), (37, .iconst 0, 1, []), (38, .ireturn, 1, []), (39, .aload_n 0, 1, []), (40, .dup, 1, []), (41, .getfield 225, 3, [1470]), (44, .iconst 1, 1, []), (45, .isub, 1, []), (46, .putfield 225, 3, [1470]), (49, .aload_n 0, 1, []), (50, .bipush 41, 2, []), (52, .invokevirtual 217, 3, [1695, 1697, 51, 110, 1698]), (55, .ireturn, 1, []), (56, .aload_n 0, 1, []), (57, .ldc 231, 2, []), (59, .invokevirtual 148, 3, [1610, 1612, 36, 110, 1613]), (62, .ifCond .eq 52, 3, []), (65, .aload_n 0, 1, []), (66, .getfield 225, 3, [1470]), (69, .bipush 6, 2, []), (71, .if_icmp .ne 5, 3, []), (74, .iconst 0, 1, []), (75, .ireturn, 1, []), (76, .aload_n 0, 1, []), (77, .dup, 1, []), (78, .getfield 225, 3, [1470]), (81, .iconst 1, 1, []), (82, .iadd, 1, []), (83, .putfield 225, 3, [1470]), (86, .aload_n 0, 1, []), (87, .invokevirtual 233, 3, [1691, 1693, 50, 110, 1694]), (90, .ifCond .ne 5, 3, []), (93, .iconst 0, 1, []), (94, .ireturn, 1, []), (95, .aload_n 0, 1, []), (96, .dup, 1, []), (97, .getfield 225, 3, [1470]), (100, .iconst 1, 1, []), (101, .isub, 1, []), (102, .putfield 225, 3, [1470]), (105, .aload_n 0, 1, []), (106, .bipush 12, 2, []), (108, .iconst 0, 1, []), (109, .invokevirtual 205, 3, [1700, 1702, 52, 110, 1703]), (112, .iconst 1, 1, []), (113, .ireturn, 1, []), (114, .aload_n 0, 1, []), (115, .invokevirtual 236, 3, [1704, 1706, 53, 110, 1707]), (118, .ifCond .eq 5, 3, []), (121, .iconst 1, 1, []), (122, .ireturn, 1, []), (123, .aload_n 0, 1, []), (124, .invokevirtual 239, 3, [1710, 1712, 54, 110, 1713]), (127, .ifCond .ne 5, 3, []), (130, .iconst 0, 1, []), (131, .ireturn, 1, []), (132, .aload_n 0, 1, []), (133, .bipush 60, 2, []), (135, .invokevirtual 217, 3, [1695, 1697, 51, 110, 1698]), (138, .istore_n 1, 1, []), (139, .iload_n 1, 1, []), (140, .ifCond .ne 12, 3, []), (143, .aload_n 0, 1, []), (144, .bipush 62, 2, []), (146, .invokevirtual 217, 3, [1695, 1697, 51, 110, 1698]), (149, .ifCond .eq 10, 3, []), (152, .aload_n 0, 1, []), (153, .invokevirtual 239, 3, [1710, 1712, 54, 110, 1713]), (156, .ifCond .ne 5, 3, []), (159, .iconst 0, 1, []), (160, .ireturn, 1, []), (161, .aload_n 0, 1, []), (162, .iload_n 1, 1, []), (163, .ifCond .eq 8, 3, []), (166, .bipush 10, 2, []), (168, .goto 5, 3, []), (171, .bipush 11, 2, []), (173, .iconst 0, 1, []), (174, .invokevirtual 205, 3, [1700, 1702, 52, 110, 1703]), (177, .iconst 1, 1, []), (178, .ireturn, 1, [])]
def z_h225 : List (Nat × Nat × Nat × Nat × Nat × Nat × Nat) := []
def z_m226 : zMi := (RX12, yX12_readAllOf, cX12_readAllOf, 1, some .boolean, [])
def z_c226 : List zI := [(2, 0, 0, 0), (54, 225, 0, 9), (31, 5, 1, 0), (0, 0, 0, 0), (50, 0, 0, 0), (2, 0, 0, 0), (58, 64, 0, 0), (54, 205, 1, 9), (31, 19, 0, 0), (2, 0, 0, 0), (54, 225, 0, 9), (31, 14, 1, 0), (0, 0, 0, 0), (50, 0, 0, 0), (2, 0, 0, 0), (0, 0, 0, 13), (0, 0, 0, 0), (54, 221, 2, 9), (30, 5, 0, 0), (0, 0, 0, 1), (50, 0, 0, 0)]
def z_i226 : List zJ := [(0, .aload_n 0, 1, []), (1, .invokevirtual 233, 3, [1691, 1693, 50, 110, 1694]), (4, .ifCond .ne 5, 3, []), (7, .iconst 0, 1, []), (8, .ireturn, 1, []), (9, .aload_n 0, 1, []), (10, .ldc 242, 2, []), (12, .invokevirtual 148, 3, [1610, 1612, 36, 110, 1613]), (15, .ifCond .eq 22, 3, []), (18, .aload_n 0, 1, []), (19, .invokevirtual 233, 3, [1691, 1693, 50, 110, 1694]), (22, .ifCond .ne 5, 3, []), (25, .iconst 0, 1, []), (26, .ireturn, 1, []), (27, .aload_n 0, 1, []), (28, .bipush 13, 2, []), (30, .iconst 0, 1, []), (31, .invokevirtual 205, 3, [1700, 1702, 52, 110, 1703]), (34, .goto (-25), 3, []), (37, .iconst 1, 1, []), (38, .ireturn, 1, [])]
def z_h226 : List (Nat × Nat × Nat × Nat × Nat × Nat × Nat) := []
def z_m227 : zMi := (RX12, yX12_readCond, cX12_readCond, 1, some .boolean, [])
def z_c227 : List zI := [(2, 0, 0, 0), (54, 226, 0, 9), (31, 5, 1, 0), (0, 0, 0, 0), (50, 0, 0, 0), (2, 0, 0, 0), (58, 65, 0, 0), (54, 205, 1, 9), (31, 19, 0, 0), (2, 0, 0, 0), (54, 226, 0, 9), (31, 14, 1, 0), (0, 0, 0, 0), (50, 0, 0, 0), (2, 0, 0, 0), (0, 0, 0, 14), (0, 0, 0, 0), (54, 221, 2, 9), (30, 5, 0, 0), (0, 0, 0, 1), (50, 0, 0, 0)]
def z_i227 : List zJ := [(0, .aload_n 0, 1, []), (1, .invokevirtual 244, 3, [1687, 1689, 49, 110, 1690]), (4, .ifCond .ne 5, 3, []), (7, .iconst 0, 1, []), (8, .ireturn, 1, []), (9, .aload_n 0, 1, []), (10, .ldc 247, 2, []), (12, .invokevirtual 148, 3, [1610, 1612, 36, 110, 1613]), (15, .ifCond .eq 22, 3, []), (18, .aload_n 0, 1, []), (19, .invokevirtual 244, 3, [1687, 1689, 49, 110, 1690]), (22, .ifCond .ne 5, 3, []), (25, .iconst 0, 1, []), (26, .ireturn, 1, []), (27, .aload_n 0, 1, []), (28, .bipush 14, 2, []), (30, .iconst 0, 1, []), (31, .invokevirtual 205, 3, [1700, 1702, 52, 110, 1703]), (34, .goto (-25), 3, []), (37, .iconst 1, 1, []), (38, .ireturn, 1, [])]
def z_h227 : List (Nat × Nat × Nat × Nat × Nat × Nat × Nat) := []
def z_m228 : zMi := (RX12, yX12_readLawLine, cX12_readLawLine, 3, some .boolean, [])
def z_c228 : List zI := [(0, 0, 0, 1238), (0, 0, 0, 4), (1, 1, 0, 0), (10, 0, 0, 0), (8, 0, 0, 0), (4, 2, 0, 0), (2, 0, 0, 0), (37, 9, 1, 0), (1, 2, 0, 0), (2, 0, 0, 0), (58, 66, 0, 0), (54, 204, 1, 9), (31, 15, 0, 0), (0, 0, 0, 0), (30, 28, 0, 0), (2, 0, 0, 0), (58, 44, 0, 0), (54, 204, 1, 9), (31, 21, 0, 0), (0, 0, 0, 1), (30, 28, 0, 0), (2, 0, 0, 0), (58, 54, 0, 0), (54, 204, 1, 9), (31, 27, 0, 0), (0, 0, 0, 2), (30, 28, 0, 0), (0, 0, 0, -1), (40, 0, 0, 0), (2, 0, 0, 0), (37, 9, 1, 0), (1, 2, 0, 0), (39, 0, 0, 0), (31, 36, 3, 0), (0, 0, 0, 0), (50, 0, 0, 0), (2, 0, 0, 0), (37, 9, 1, 0), (1, 2, 0, 0), (0, 0, 0, 1), (8, 0, 0, 0), (2, 0, 0, 0), (0, 0, 0, 0), (0, 0, 0, 20), (54, 207, 2, 9), (40, 0, 0, 0), (2, 0, 0, 0), (37, 9, 1, 0), (1, 2, 0, 0), (0, 0, 0, 1), (8, 0, 0, 0), (39, 0, 0, 0), (31, 55, 3, 0), (0, 0, 0, 0), (50, 0, 0, 0), (2, 0, 0, 0), (37, 9, 1, 0), (1, 2, 0, 0), (0, 0, 0, 2), (8, 0, 0, 0), (2, 0, 0, 0), (37, 9, 16, 0), (40, 0, 0, 0), (2, 0, 0, 0), (0, 0, 0, 0), (38, 9, 13, 0), (2, 0, 0, 0), (58, 67, 0, 0), (54, 205, 1, 9), (31, 75, 0, 0), (2, 0, 0, 0), (54, 227, 0, 9), (31, 75, 1, 0), (0, 0, 0, 0), (50, 0, 0, 0), (2, 0, 0, 0), (37, 9, 1, 0), (1, 2, 0, 0), (0, 0, 0, 3), (8, 0, 0, 0), (2, 0, 0, 0), (37, 9, 16, 0), (40, 0, 0, 0), (0, 0, 0, 1), (50, 0, 0, 0)]
def z_i228 : List zJ := [(0, .sipush 1238, 3, []), (3, .iconst 4, 1, []), (4, .iload_n 1, 1, []), (5, .imul, 1, []), (6, .iadd, 1, []), (7, .istore_n 2, 1, []), (8, .aload_n 0, 1, []), (9, .getfield 13, 3, [1458]), (12, .iload_n 2, 1, []), (13, .aload_n 0, 1, []), (14, .ldc 249, 2, []), (16, .invokevirtual 124, 3, [1584, 1586, 31, 110, 1587]), (19, .ifCond .eq 7, 3, []), (22, .iconst 0, 1, []), (23, .goto 30, 3, []), (26, .aload_n 0, 1, []), (27, .ldc 142, 2, []), (29, .invokevirtual 124, 3, [1584, 1586, 31, 110, 1587]), (32, .ifCond .eq 7, 3, []), (35, .iconst 1, 1, []), (36, .goto 17, 3, []), (39, .aload_n 0, 1, []), (40, .ldc 194, 2, []), (42, .invokevirtual 124, 3, [1584, 1586, 31, 110, 1587]), (45, .ifCond .eq 7, 3, []), (48, .iconst 2, 1, []), (49, .goto 4, 3, []), (52, .iconst (-1), 1, []), (53, .iastore, 1, []), (54, .aload_n 0, 1, []), (55, .getfield 13, 3, [1458]), (58, .iload_n 2, 1, []), (59, .iaload, 1, []), (60, .ifCond .ge 5, 3, []), (63, .iconst 0, 1, []), (64, .ireturn, 1, []), (65, .aload_n 0, 1, []), (66, .getfield 13, 3, [1458]), (69, .iload_n 2, 1, []), (70, .iconst 1, 1, []), (71, .iadd, 1, []), (72, .aload_n 0, 1, []), (73, .iconst 0, 1, []), (74, .bipush 20, 2, []), (76, .invokevirtual 128, 3, [1603, 1605, 35, 110, 1606]), (79, .iastore, 1, []), (80, .aload_n 0, 1, []), (81, .getfield 13, 3, [1458]), (84, .iload_n 2, 1, []), (85, .iconst 1, 1, []), (86, .iadd, 1, []), (87, .iaload, 1, []), (88, .ifCond .ge 5, 3, []), (91, .iconst 0, 1, []), (92, .ireturn, 1, []), (93, .aload_n 0, 1, []), (94, .getfield 13, 3, [1458]), (97, .iload_n 2, 1, []), (98, .iconst 2, 1, []), (99, .iadd, 1, []), (100, .aload_n 0, 1, []), (101, .getfield 202, 3, [1473]), (104, .iastore, 1, []), (105, .aload_n 0, 1, []), (106, .iconst 0, 1, []), (107, .putfield 225, 3, [1470]), (110, .aload_n 0, 1, []), (111, .ldc 251, 2, []), (113, .invokevirtual 148, 3, [1610, 1612, 36, 110, 1613]), (116, .ifCond .eq 12, 3, []), (119, .aload_n 0, 1, []), (120, .invokevirtual 228, 3, [1683, 1685, 48, 110, 1686]), (123, .ifCond .ne 5, 3, []), (126, .iconst 0, 1, []), (127, .ireturn, 1, []), (128, .aload_n 0, 1, []), (129, .getfield 13, 3, [1458]), (132, .iload_n 2, 1, []), (133, .iconst 3, 1, []), (134, .iadd, 1, []), (135, .aload_n 0, 1, []), (136, .getfield 202, 3, [1473]), (139, .iastore, 1, []), (140, .iconst 1, 1, []), (141, .ireturn, 1, [])]
def z_h228 : List (Nat × Nat × Nat × Nat × Nat × Nat × Nat) := []
def z_m229 : zMi := (RX12, yX12_readLine, cX12_readLine, 3, some .boolean, [])
def z_c229 : List zI := [(2, 0, 0, 0), (54, 203, 0, 9), (1, 2, 0, 0), (1, 1, 0, 0), (31, 7, 0, 0), (0, 0, 0, 14), (30, 8, 0, 0), (0, 0, 0, 12), (32, 21, 3, 0), (1, 1, 0, 0), (31, 15, 0, 0), (2, 0, 0, 0), (54, 220, 0, 9), (31, 21, 0, 0), (30, 19, 0, 0), (2, 0, 0, 0), (1, 2, 0, 0), (54, 228, 1, 9), (31, 21, 0, 0), (0, 0, 0, 1), (30, 22, 0, 0), (0, 0, 0, 0), (50, 0, 0, 0)]
def z_i229 : List zJ := [(0, .aload_n 0, 1, []), (1, .invokevirtual 121, 3, [1575, 1577, 29, 110, 1578]), (4, .iload_n 2, 1, []), (5, .iload_n 1, 1, []), (6, .ifCond .eq 8, 3, []), (9, .bipush 14, 2, []), (11, .goto 5, 3, []), (14, .bipush 12, 2, []), (16, .if_icmp .ge 29, 3, []), (19, .iload_n 1, 1, []), (20, .ifCond .eq 13, 3, []), (23, .aload_n 0, 1, []), (24, .invokevirtual 253, 3, [1579, 1581, 30, 110, 1582]), (27, .ifCond .eq 18, 3, []), (30, .goto 11, 3, []), (33, .aload_n 0, 1, []), (34, .iload_n 2, 1, []), (35, .invokevirtual 256, 3, [1677, 1679, 47, 110, 1680]), (38, .ifCond .eq 7, 3, []), (41, .iconst 1, 1, []), (42, .goto 4, 3, []), (45, .iconst 0, 1, []), (46, .ireturn, 1, [])]
def z_h229 : List (Nat × Nat × Nat × Nat × Nat × Nat × Nat) := []
def z_m230 : zMi := (RX12, yX12_readAll, cX12_readAll, 3, some .int, [])
def z_c230 : List zI := [(2, 0, 0, 0), (54, 210, 0, 9), (2, 0, 0, 0), (0, 0, 0, 0), (38, 9, 16, 0), (2, 0, 0, 0), (54, 202, 0, 9), (2, 0, 0, 0), (37, 9, 10, 0), (2, 0, 0, 0), (37, 9, 11, 0), (32, 14, 1, 0), (0, 0, 0, 0), (50, 0, 0, 0), (0, 0, 0, 0), (4, 2, 0, 0), (2, 0, 0, 0), (1, 1, 0, 0), (1, 2, 0, 0), (54, 229, 2, 9), (31, 23, 1, 0), (0, 0, 0, -1), (50, 0, 0, 0), (2, 0, 0, 0), (54, 202, 0, 9), (2, 0, 0, 0), (37, 9, 10, 0), (2, 0, 0, 0), (37, 9, 11, 0), (32, 34, 1, 0), (1, 2, 0, 0), (0, 0, 0, 1), (8, 0, 0, 0), (50, 0, 0, 0), (2, 0, 0, 0), (0, 0, 0, 59), (0, 0, 0, 59), (54, 201, 2, 9), (31, 41, 1, 0), (0, 0, 0, -1), (50, 0, 0, 0), (2, 0, 0, 0), (27, 0, 0, 0), (37, 9, 10, 0), (0, 0, 0, 1), (8, 0, 0, 0), (38, 9, 10, 0), (7, 2, 0, 1), (30, 16, 0, 0)]
def z_i230 : List zJ := [(0, .aload_n 0, 1, []), (1, .invokevirtual 259, 3, [1559, 1561, 25, 110, 1562]), (4, .aload_n 0, 1, []), (5, .iconst 0, 1, []), (6, .putfield 202, 3, [1473]), (9, .aload_n 0, 1, []), (10, .invokevirtual 109, 3, [1563, 1565, 26, 110, 1566]), (13, .aload_n 0, 1, []), (14, .getfield 97, 3, [1467]), (17, .aload_n 0, 1, []), (18, .getfield 100, 3, [1468]), (21, .if_icmp .ne 5, 3, []), (24, .iconst 0, 1, []), (25, .ireturn, 1, []), (26, .iconst 0, 1, []), (27, .istore_n 2, 1, []), (28, .aload_n 0, 1, []), (29, .iload_n 1, 1, []), (30, .iload_n 2, 1, []), (31, .invokevirtual 262, 3, [1571, 1573, 28, 110, 1574]), (34, .ifCond .ne 5, 3, []), (37, .iconst (-1), 1, []), (38, .ireturn, 1, []), (39, .aload_n 0, 1, []), (40, .invokevirtual 109, 3, [1563, 1565, 26, 110, 1566]), (43, .aload_n 0, 1, []), (44, .getfield 97, 3, [1467]), (47, .aload_n 0, 1, []), (48, .getfield 100, 3, [1468]), (51, .if_icmp .ne 7, 3, []), (54, .iload_n 2, 1, []), (55, .iconst 1, 1, []), (56, .iadd, 1, []), (57, .ireturn, 1, []), (58, .aload_n 0, 1, []), (59, .bipush 59, 2, []), (61, .bipush 59, 2, []), (63, .invokevirtual 103, 3, [1567, 1569, 27, 110, 1570]), (66, .ifCond .ne 5, 3, []), (69, .iconst (-1), 1, []), (70, .ireturn, 1, []), (71, .aload_n 0, 1, []), (72, .dup, 1, []), (73, .getfield 97, 3, [1467]), (76, .iconst 1, 1, []), (77, .iadd, 1, []), (78, .putfield 97, 3, [1467]), (81, .iinc 2 1, 3, []), (84, .goto (-56), 3, [])]
def z_h230 : List (Nat × Nat × Nat × Nat × Nat × Nat × Nat) := []
def z_m231 : zMi := (RX12, yX12_deed, cX12_deed, 3, some .int, [])
def z_c231 : List zI := [(0, 0, 0, 0), (4, 1, 0, 0), (1, 1, 0, 0), (0, 0, 0, 1237), (32, 15, 3, 0), (2, 0, 0, 0), (37, 9, 3, 0), (1, 1, 0, 0), (2, 0, 0, 0), (37, 9, 1, 0), (1, 1, 0, 0), (39, 0, 0, 0), (40, 0, 0, 0), (7, 1, 0, 1), (30, 2, 0, 0), (2, 0, 0, 0), (0, 0, 0, 1), (54, 230, 1, 9), (4, 1, 0, 0), (2, 0, 0, 0), (1, 1, 0, 0), (31, 25, 3, 0), (2, 0, 0, 0), (37, 9, 12, 0), (30, 26, 0, 0), (0, 0, 0, -1), (38, 9, 14, 0), (2, 0, 0, 0), (1, 1, 0, 0), (31, 32, 3, 0), (0, 0, 0, 1), (30, 33, 0, 0), (0, 0, 0, 0), (0, 0, 0, 1), (54, 176, 2, 9), (31, 49, 1, 0), (2, 0, 0, 0), (2, 0, 0, 0), (37, 9, 1, 0), (0, 0, 0, 2), (39, 0, 0, 0), (0, 0, 0, 12), (32, 45, 1, 0), (0, 0, 0, 1), (30, 46, 0, 0), (0, 0, 0, 0), (0, 0, 0, 2), (54, 176, 2, 9), (31, 66, 0, 0), (0, 0, 0, 0), (4, 2, 0, 0), (1, 2, 0, 0), (0, 0, 0, 1237), (32, 64, 3, 0), (2, 0, 0, 0), (37, 9, 1, 0), (1, 2, 0, 0), (2, 0, 0, 0), (37, 9, 3, 0), (1, 2, 0, 0), (39, 0, 0, 0), (40, 0, 0, 0), (7, 2, 0, 1), (30, 51, 0, 0), (0, 0, 0, 0), (50, 0, 0, 0), (2, 0, 0, 0), (37, 9, 1, 0), (0, 0, 0, 2), (28, 0, 0, 0), (39, 0, 0, 0), (0, 0, 0, 1), (8, 0, 0, 0), (40, 0, 0, 0), (2, 0, 0, 0), (0, 0, 0, 0), (38, 9, 7, 0), (2, 0, 0, 0), (37, 9, 1, 0), (0, 0, 0, 2), (39, 0, 0, 0), (50, 0, 0, 0)]
def z_i231 : List zJ := [(0, .iconst 0, 1, []), (1, .istore_n 1, 1, []), (2, .iload_n 1, 1, []), (3, .sipush 1237, 3, []), (6, .if_icmp .ge 21, 3, []), (9, .aload_n 0, 1, []), (10, .getfield 20, 3, [1460]), (13, .iload_n 1, 1, []), (14, .aload_n 0, 1, []), (15, .getfield 13, 3, [1458]), (18, .iload_n 1, 1, []), (19, .iaload, 1, []), (20, .iastore, 1, []), (21, .iinc 1 1, 3, []), (24, .goto (-22), 3, []), (27, .aload_n 0, 1, []), (28, .iconst 1, 1, []), (29, .invokevirtual 266, 3, [1555, 1557, 24, 110, 1558]), (32, .istore_n 1, 1, []), (33, .aload_n 0, 1, []), (34, .iload_n 1, 1, []), (35, .ifCond .ge 10, 3, []), (38, .aload_n 0, 1, []), (39, .getfield 106, 3, [1469]), (42, .goto 4, 3, []), (45, .iconst (-1), 1, []), (46, .putfield 33, 3, [1471]), (49, .aload_n 0, 1, []), (50, .iload_n 1, 1, []), (51, .ifCond .ge 7, 3, []), (54, .iconst 1, 1, []), (55, .goto 4, 3, []), (58, .iconst 0, 1, []), (59, .iconst 1, 1, []), (60, .invokevirtual 270, 3, [1723, 1725, 56, 110, 1726]), (63, .ifCond .ne 27, 3, []), (66, .aload_n 0, 1, []), (67, .aload_n 0, 1, []), (68, .getfield 13, 3, [1458]), (71, .iconst 2, 1, []), (72, .iaload, 1, []), (73, .bipush 12, 2, []), (75, .if_icmp .ne 7, 3, []), (78, .iconst 1, 1, []), (79, .goto 4, 3, []), (82, .iconst 0, 1, []), (83, .iconst 2, 1, []), (84, .invokevirtual 270, 3, [1723, 1725, 56, 110, 1726]), (87, .ifCond .eq 32, 3, []), (90, .iconst 0, 1, []), (91, .istore_n 2, 1, []), (92, .iload_n 2, 1, []), (93, .sipush 1237, 3, []), (96, .if_icmp .ge 21, 3, []), (99, .aload_n 0, 1, []), (100, .getfield 13, 3, [1458]), (103, .iload_n 2, 1, []), (104, .aload_n 0, 1, []), (105, .getfield 20, 3, [1460]), (108, .iload_n 2, 1, []), (109, .iaload, 1, []), (110, .iastore, 1, []), (111, .iinc 2 1, 3, []), (114, .goto (-22), 3, []), (117, .iconst 0, 1, []), (118, .ireturn, 1, []), (119, .aload_n 0, 1, []), (120, .getfield 13, 3, [1458]), (123, .iconst 2, 1, []), (124, .dup2, 1, []), (125, .iaload, 1, []), (126, .iconst 1, 1, []), (127, .iadd, 1, []), (128, .iastore, 1, []), (129, .aload_n 0, 1, []), (130, .iconst 0, 1, []), (131, .putfield 58, 3, [1464]), (134, .aload_n 0, 1, []), (135, .getfield 13, 3, [1458]), (138, .iconst 2, 1, []), (139, .iaload, 1, []), (140, .ireturn, 1, [])]
def z_h231 : List (Nat × Nat × Nat × Nat × Nat × Nat × Nat) := []
def z_m232 : zMi := (RX12, yX12_law, cX12_law, 3, some .int, [])
def z_c232 : List zI := [(2, 0, 0, 0), (0, 0, 0, 0), (54, 230, 1, 9), (4, 1, 0, 0), (2, 0, 0, 0), (1, 1, 0, 0), (31, 10, 3, 0), (2, 0, 0, 0), (37, 9, 12, 0), (30, 11, 0, 0), (0, 0, 0, -1), (38, 9, 14, 0), (2, 0, 0, 0), (1, 1, 0, 0), (31, 17, 3, 0), (0, 0, 0, 1), (30, 18, 0, 0), (0, 0, 0, 0), (0, 0, 0, 1), (54, 176, 2, 9), (31, 23, 0, 0), (0, 0, 0, 0), (50, 0, 0, 0), (2, 0, 0, 0), (37, 9, 1, 0), (0, 0, 0, 1237), (1, 1, 0, 0), (40, 0, 0, 0), (0, 0, 0, 0), (4, 2, 0, 0), (1, 2, 0, 0), (0, 0, 0, 849), (32, 47, 3, 0), (2, 0, 0, 0), (37, 9, 1, 0), (0, 0, 0, 388), (1, 2, 0, 0), (8, 0, 0, 0), (2, 0, 0, 0), (37, 9, 1, 0), (0, 0, 0, 1237), (1, 2, 0, 0), (8, 0, 0, 0), (39, 0, 0, 0), (40, 0, 0, 0), (7, 2, 0, 1), (30, 30, 0, 0), (2, 0, 0, 0), (37, 9, 1, 0), (0, 0, 0, 3), (0, 0, 0, 1), (40, 0, 0, 0), (2, 0, 0, 0), (0, 0, 0, 0), (38, 9, 7, 0), (1, 1, 0, 0), (50, 0, 0, 0)]
def z_i232 : List zJ := [(0, .aload_n 0, 1, []), (1, .iconst 0, 1, []), (2, .invokevirtual 266, 3, [1555, 1557, 24, 110, 1558]), (5, .istore_n 1, 1, []), (6, .aload_n 0, 1, []), (7, .iload_n 1, 1, []), (8, .ifCond .ge 10, 3, []), (11, .aload_n 0, 1, []), (12, .getfield 106, 3, [1469]), (15, .goto 4, 3, []), (18, .iconst (-1), 1, []), (19, .putfield 33, 3, [1471]), (22, .aload_n 0, 1, []), (23, .iload_n 1, 1, []), (24, .ifCond .ge 7, 3, []), (27, .iconst 1, 1, []), (28, .goto 4, 3, []), (31, .iconst 0, 1, []), (32, .iconst 1, 1, []), (33, .invokevirtual 270, 3, [1723, 1725, 56, 110, 1726]), (36, .ifCond .eq 5, 3, []), (39, .iconst 0, 1, []), (40, .ireturn, 1, []), (41, .aload_n 0, 1, []), (42, .getfield 13, 3, [1458]), (45, .sipush 1237, 3, []), (48, .iload_n 1, 1, []), (49, .iastore, 1, []), (50, .iconst 0, 1, []), (51, .istore_n 2, 1, []), (52, .iload_n 2, 1, []), (53, .sipush 849, 3, []), (56, .if_icmp .ge 29, 3, []), (59, .aload_n 0, 1, []), (60, .getfield 13, 3, [1458]), (63, .sipush 388, 3, []), (66, .iload_n 2, 1, []), (67, .iadd, 1, []), (68, .aload_n 0, 1, []), (69, .getfield 13, 3, [1458]), (72, .sipush 1237, 3, []), (75, .iload_n 2, 1, []), (76, .iadd, 1, []), (77, .iaload, 1, []), (78, .iastore, 1, []), (79, .iinc 2 1, 3, []), (82, .goto (-30), 3, []), (85, .aload_n 0, 1, []), (86, .getfield 13, 3, [1458]), (89, .iconst 3, 1, []), (90, .iconst 1, 1, []), (91, .iastore, 1, []), (92, .aload_n 0, 1, []), (93, .iconst 0, 1, []), (94, .putfield 58, 3, [1464]), (97, .iload_n 1, 1, []), (98, .ireturn, 1, [])]
def z_h232 : List (Nat × Nat × Nat × Nat × Nat × Nat × Nat) := []
def z_m233 : zMi := (RX12, yX12_leftOnes, cX12_leftOnes, 3, some .int, [])
def z_c233 : List zI := [(0, 0, 0, 0), (4, 1, 0, 0), (0, 0, 0, 0), (4, 2, 0, 0), (1, 2, 0, 0), (2, 0, 0, 0), (54, 185, 0, 9), (32, 22, 3, 0), (1, 1, 0, 0), (2, 0, 0, 0), (1, 2, 0, 0), (54, 194, 1, 9), (31, 17, 0, 0), (0, 0, 0, 1), (1, 2, 0, 0), (13, 0, 0, 0), (30, 18, 0, 0), (0, 0, 0, 0), (17, 0, 0, 0), (4, 1, 0, 0), (7, 2, 0, 1), (30, 4, 0, 0), (1, 1, 0, 0), (50, 0, 0, 0)]
def z_i233 : List zJ := [(0, .iconst 0, 1, []), (1, .istore_n 1, 1, []), (2, .iconst 0, 1, []), (3, .istore_n 2, 1, []), (4, .iload_n 2, 1, []), (5, .aload_n 0, 1, []), (6, .invokevirtual 90, 3, [1655, 1657, 44, 110, 1658]), (9, .if_icmp .ge 27, 3, []), (12, .iload_n 1, 1, []), (13, .aload_n 0, 1, []), (14, .iload_n 2, 1, []), (15, .invokevirtual 273, 3, [1802, 1804, 69, 110, 1805]), (18, .ifCond .eq 9, 3, []), (21, .iconst 1, 1, []), (22, .iload_n 2, 1, []), (23, .ishl, 1, []), (24, .goto 4, 3, []), (27, .iconst 0, 1, []), (28, .ior, 1, []), (29, .istore_n 1, 1, []), (30, .iinc 2 1, 3, []), (33, .goto (-29), 3, []), (36, .iload_n 1, 1, []), (37, .ireturn, 1, [])]
def z_h233 : List (Nat × Nat × Nat × Nat × Nat × Nat × Nat) := []
def z_m234 : zMi := (RX12, yX12_bulkOf, cX12_bulkOf, 4, some .int, [])
def z_c234 : List zI := [(0, 0, 0, 0), (4, 2, 0, 0), (0, 0, 0, 0), (4, 3, 0, 0), (1, 3, 0, 0), (2, 0, 0, 0), (54, 185, 0, 9), (32, 23, 3, 0), (1, 2, 0, 0), (1, 1, 0, 0), (1, 3, 0, 0), (55, 178, 2, 0), (31, 18, 0, 0), (2, 0, 0, 0), (1, 3, 0, 0), (0, 0, 0, 1), (54, 193, 2, 9), (30, 19, 0, 0), (0, 0, 0, 0), (8, 0, 0, 0), (4, 2, 0, 0), (7, 3, 0, 1), (30, 4, 0, 0), (1, 2, 0, 0), (50, 0, 0, 0)]
def z_i234 : List zJ := [(0, .iconst 0, 1, []), (1, .istore_n 2, 1, []), (2, .iconst 0, 1, []), (3, .istore_n 3, 1, []), (4, .iload_n 3, 1, []), (5, .aload_n 0, 1, []), (6, .invokevirtual 90, 3, [1655, 1657, 44, 110, 1658]), (9, .if_icmp .ge 30, 3, []), (12, .iload_n 2, 1, []), (13, .iload_n 1, 1, []), (14, .iload_n 3, 1, []), (15, .invokestatic 72, 3, [1630, 1631, 110, 1632]), (18, .ifCond .eq 12, 3, []), (21, .aload_n 0, 1, []), (22, .iload_n 3, 1, []), (23, .iconst 1, 1, []), (24, .invokevirtual 79, 3, [1806, 1808, 70, 110, 1809]), (27, .goto 4, 3, []), (30, .iconst 0, 1, []), (31, .iadd, 1, []), (32, .istore_n 2, 1, []), (33, .iinc 3 1, 3, []), (36, .goto (-32), 3, []), (39, .iload_n 2, 1, []), (40, .ireturn, 1, [])]
def z_h234 : List (Nat × Nat × Nat × Nat × Nat × Nat × Nat) := []
def z_m235 : zMi := (RX12, yX12_isNight, cX12_isNight, 1, some .boolean, [])
def z_c235 : List zI := [(1, 0, 0, 0), (0, 0, 0, 6), (32, 6, 2, 0), (1, 0, 0, 0), (0, 0, 0, 21), (32, 8, 5, 0), (0, 0, 0, 1), (30, 9, 0, 0), (0, 0, 0, 0), (50, 0, 0, 0)]
def z_i235 : List zJ := [(0, .iload_n 0, 1, []), (1, .bipush 6, 2, []), (3, .if_icmp .lt 9, 3, []), (6, .iload_n 0, 1, []), (7, .bipush 21, 2, []), (9, .if_icmp .le 7, 3, []), (12, .iconst 1, 1, []), (13, .goto 4, 3, []), (16, .iconst 0, 1, []), (17, .ireturn, 1, [])]
def z_h235 : List (Nat × Nat × Nat × Nat × Nat × Nat × Nat) := []
def z_m236 : zMi := (RX12, yX12_factOf, cX12_factOf, 5, some .int, [])
def z_c236 : List zI := [(1, 1, 0, 0), (35, 5, 0, 0), (1, 3, 0, 0), (50, 0, 0, 0), (1, 4, 0, 0), (50, 0, 0, 0), (2, 0, 0, 0), (37, 9, 1, 0), (0, 0, 0, 6), (39, 0, 0, 0), (50, 0, 0, 0), (2, 0, 0, 0), (37, 9, 1, 0), (0, 0, 0, 7), (39, 0, 0, 0), (50, 0, 0, 0), (2, 0, 0, 0), (37, 9, 1, 0), (0, 0, 0, 8), (39, 0, 0, 0), (50, 0, 0, 0), (2, 0, 0, 0), (2, 0, 0, 0), (54, 233, 0, 9), (54, 234, 1, 9), (50, 0, 0, 0), (1, 4, 0, 0), (55, 235, 1, 0), (31, 31, 0, 0), (0, 0, 0, 1), (30, 32, 0, 0), (0, 0, 0, 0), (50, 0, 0, 0), (2, 0, 0, 0), (1, 3, 0, 0), (1, 4, 0, 0), (54, 191, 2, 9), (31, 40, 0, 0), (0, 0, 0, 1), (30, 41, 0, 0), (0, 0, 0, 0), (50, 0, 0, 0), (1, 2, 0, 0), (50, 0, 0, 0)]
def z_i236 : List zJ := [(0, .iload_n 1, 1, []), (1, .tableswitch 115 0 7 #[47, 49, 52, 60, 68, 76, 85, 99], 47, []), (48, .iload_n 3, 1, []), (49, .ireturn, 1, []), (50, .iload 4, 2, []), (52, .ireturn, 1, []), (53, .aload_n 0, 1, []), (54, .getfield 13, 3, [1458]), (57, .bipush 6, 2, []), (59, .iaload, 1, []), (60, .ireturn, 1, []), (61, .aload_n 0, 1, []), (62, .getfield 13, 3, [1458]), (65, .bipush 7, 2, []), (67, .iaload, 1, []), (68, .ireturn, 1, []), (69, .aload_n 0, 1, []), (70, .getfield 13, 3, [1458]), (73, .bipush 8, 2, []), (75, .iaload, 1, []), (76, .ireturn, 1, []), (77, .aload_n 0, 1, []), (78, .aload_n 0, 1, []), (79, .invokevirtual 276, 3, [1798, 1800, 68, 110, 1801]), (82, .invokevirtual 279, 3, [1810, 1812, 71, 110, 1813]), (85, .ireturn, 1, []), (86, .iload 4, 2, []), (88, .invokestatic 282, 3, [1814, 1815, 110, 1816]), (91, .ifCond .eq 7, 3, []), (94, .iconst 1, 1, []), (95, .goto 4, 3, []), (98, .iconst 0, 1, []), (99, .ireturn, 1, []), (100, .aload_n 0, 1, []), (101, .iload_n 3, 1, []), (102, .iload 4, 2, []), (104, .invokevirtual 285, 3, [1817, 1819, 72, 110, 1820]), (107, .ifCond .eq 7, 3, []), (110, .iconst 1, 1, []), (111, .goto 4, 3, []), (114, .iconst 0, 1, []), (115, .ireturn, 1, []), (116, .iload_n 2, 1, []), (117, .ireturn, 1, [])]
def z_h236 : List (Nat × Nat × Nat × Nat × Nat × Nat × Nat) := []
def z_m237 : zMi := (RX12, yX12_holdsLine, cX12_holdsLine, 11, some .boolean, [])
def z_c237 : List zI := [(0, 0, 0, 0), (4, 4, 0, 0), (0, 0, 0, 389), (0, 0, 0, 4), (1, 1, 0, 0), (10, 0, 0, 0), (8, 0, 0, 0), (4, 5, 0, 0), (2, 0, 0, 0), (37, 9, 1, 0), (1, 5, 0, 0), (0, 0, 0, 2), (8, 0, 0, 0), (39, 0, 0, 0), (4, 6, 0, 0), (1, 6, 0, 0), (2, 0, 0, 0), (37, 9, 1, 0), (1, 5, 0, 0), (0, 0, 0, 3), (8, 0, 0, 0), (39, 0, 0, 0), (32, 147, 3, 0), (2, 0, 0, 0), (37, 9, 1, 0), (0, 0, 0, 437), (0, 0, 0, 2), (1, 6, 0, 0), (10, 0, 0, 0), (8, 0, 0, 0), (39, 0, 0, 0), (4, 7, 0, 0), (1, 7, 0, 0), (0, 0, 0, 8), (32, 56, 4, 0), (2, 0, 0, 0), (37, 9, 17, 0), (1, 4, 0, 0), (2, 0, 0, 0), (1, 7, 0, 0), (2, 0, 0, 0), (37, 9, 1, 0), (0, 0, 0, 437), (0, 0, 0, 2), (1, 6, 0, 0), (10, 0, 0, 0), (8, 0, 0, 0), (0, 0, 0, 1), (8, 0, 0, 0), (39, 0, 0, 0), (1, 2, 0, 0), (1, 3, 0, 0), (54, 236, 4, 9), (40, 0, 0, 0), (7, 4, 0, 1), (30, 145, 0, 0), (1, 7, 0, 0), (0, 0, 0, 12), (32, 74, 1, 0), (2, 0, 0, 0), (37, 9, 17, 0), (1, 4, 0, 0), (0, 0, 0, 1), (9, 0, 0, 0), (0, 0, 0, 1), (2, 0, 0, 0), (37, 9, 17, 0), (1, 4, 0, 0), (0, 0, 0, 1), (9, 0, 0, 0), (39, 0, 0, 0), (9, 0, 0, 0), (40, 0, 0, 0), (30, 145, 0, 0), (7, 4, 0, -1), (2, 0, 0, 0), (37, 9, 17, 0), (1, 4, 0, 0), (0, 0, 0, 1), (9, 0, 0, 0), (39, 0, 0, 0), (4, 8, 0, 0), (2, 0, 0, 0), (37, 9, 17, 0), (1, 4, 0, 0), (39, 0, 0, 0), (4, 9, 0, 0), (1, 7, 0, 0), (0, 0, 0, 10), (32, 97, 1, 0), (1, 8, 0, 0), (1, 9, 0, 0), (32, 95, 3, 0), (0, 0, 0, 1), (30, 126, 0, 0), (0, 0, 0, 0), (30, 126, 0, 0), (1, 7, 0, 0), (0, 0, 0, 11), (32, 107, 1, 0), (1, 8, 0, 0), (1, 9, 0, 0), (32, 105, 5, 0), (0, 0, 0, 1), (30, 126, 0, 0), (0, 0, 0, 0), (30, 126, 0, 0), (1, 7, 0, 0), (0, 0, 0, 13), (32, 119, 1, 0), (1, 8, 0, 0), (1, 9, 0, 0), (8, 0, 0, 0), (0, 0, 0, 2), (32, 117, 1, 0), (0, 0, 0, 1), (30, 126, 0, 0), (0, 0, 0, 0), (30, 126, 0, 0), (1, 8, 0, 0), (1, 9, 0, 0), (8, 0, 0, 0), (31, 125, 5, 0), (0, 0, 0, 1), (30, 126, 0, 0), (0, 0, 0, 0), (4, 10, 0, 0), (2, 0, 0, 0), (37, 9, 17, 0), (1, 4, 0, 0), (0, 0, 0, 1), (9, 0, 0, 0), (1, 7, 0, 0), (0, 0, 0, 9), (32, 139, 1, 0), (1, 8, 0, 0), (1, 9, 0, 0), (8, 0, 0, 0), (30, 144, 0, 0), (1, 10, 0, 0), (31, 143, 0, 0), (0, 0, 0, 1), (30, 144, 0, 0), (0, 0, 0, 0), (40, 0, 0, 0), (7, 6, 0, 1), (30, 15, 0, 0), (1, 4, 0, 0), (31, 155, 0, 0), (2, 0, 0, 0), (37, 9, 17, 0), (0, 0, 0, 0), (39, 0, 0, 0), (0, 0, 0, 1), (32, 157, 1, 0), (0, 0, 0, 1), (30, 158, 0, 0), (0, 0, 0, 0), (50, 0, 0, 0)]
def z_i237 : List zJ := [(0, .iconst 0, 1, []), (1, .istore 4, 2, []), (3, .sipush 389, 3, []), (6, .iconst 4, 1, []), (7, .iload_n 1, 1, []), (8, .imul, 1, []), (9, .iadd, 1, []), (10, .istore 5, 2, []), (12, .aload_n 0, 1, []), (13, .getfield 13, 3, [1458]), (16, .iload 5, 2, []), (18, .iconst 2, 1, []), (19, .iadd, 1, []), (20, .iaload, 1, []), (21, .istore 6, 2, []), (23, .iload 6, 2, []), (25, .aload_n 0, 1, []), (26, .getfield 13, 3, [1458]), (29, .iload 5, 2, []), (31, .iconst 3, 1, []), (32, .iadd, 1, []), (33, .iaload, 1, []), (34, .if_icmp .ge 237, 3, []), (37, .aload_n 0, 1, []), (38, .getfield 13, 3, [1458]), (41, .sipush 437, 3, []), (44, .iconst 2, 1, []), (45, .iload 6, 2, []), (47, .imul, 1, []), (48, .iadd, 1, []), (49, .iaload, 1, []), (50, .istore 7, 2, []), (52, .iload 7, 2, []), (54, .bipush 8, 2, []), (56, .if_icmp .gt 39, 3, []), (59, .aload_n 0, 1, []), (60, .getfield 39, 3, [1474]), (63, .iload 4, 2, []), (65, .aload_n 0, 1, []), (66, .iload 7, 2, []), (68, .aload_n 0, 1, []), (69, .getfield 13, 3, [1458]), (72, .sipush 437, 3, []), (75, .iconst 2, 1, []), (76, .iload 6, 2, []), (78, .imul, 1, []), (79, .iadd, 1, []), (80, .iconst 1, 1, []), (81, .iadd, 1, []), (82, .iaload, 1, []), (83, .iload_n 2, 1, []), (84, .iload_n 3, 1, []), (85, .invokevirtual 287, 3, [1794, 1796, 67, 110, 1797]), (88, .iastore, 1, []), (89, .iinc 4 1, 3, []), (92, .goto 173, 3, []), (95, .iload 7, 2, []), (97, .bipush 12, 2, []), (99, .if_icmp .ne 26, 3, []), (102, .aload_n 0, 1, []), (103, .getfield 39, 3, [1474]), (106, .iload 4, 2, []), (108, .iconst 1, 1, []), (109, .isub, 1, []), (110, .iconst 1, 1, []), (111, .aload_n 0, 1, []), (112, .getfield 39, 3, [1474]), (115, .iload 4, 2, []), (117, .iconst 1, 1, []), (118, .isub, 1, []), (119, .iaload, 1, []), (120, .isub, 1, []), (121, .iastore, 1, []), (122, .goto 143, 3, []), (125, .iinc 4 (-1), 3, []), (128, .aload_n 0, 1, []), (129, .getfield 39, 3, [1474]), (132, .iload 4, 2, []), (134, .iconst 1, 1, []), (135, .isub, 1, []), (136, .iaload, 1, []), (137, .istore 8, 2, []), (139, .aload_n 0, 1, []), (140, .getfield 39, 3, [1474]), (143, .iload 4, 2, []), (145, .iaload, 1, []), (146, .istore 9, 2, []), (148, .iload 7, 2, []), (150, .bipush 10, 2, []), (152, .if_icmp .ne 18, 3, []), (155, .iload 8, 2, []), (157, .iload 9, 2, []), (159, .if_icmp .ge 7, 3, []), (162, .iconst 1, 1, []), (163, .goto 66, 3, []), (166, .iconst 0, 1, []), (167, .goto 62, 3, []), (170, .iload 7, 2, []), (172, .bipush 11, 2, []), (174, .if_icmp .ne 18, 3, []), (177, .iload 8, 2, []), (179, .iload 9, 2, []), (181, .if_icmp .le 7, 3, []), (184, .iconst 1, 1, []), (185, .goto 44, 3, []), (188, .iconst 0, 1, []), (189, .goto 40, 3, []), (192, .iload 7, 2, []), (194, .bipush 13, 2, []), (196, .if_icmp .ne 20, 3, []), (199, .iload 8, 2, []), (201, .iload 9, 2, []), (203, .iadd, 1, []), (204, .iconst 2, 1, []), (205, .if_icmp .ne 7, 3, []), (208, .iconst 1, 1, []), (209, .goto 20, 3, []), (212, .iconst 0, 1, []), (213, .goto 16, 3, []), (216, .iload 8, 2, []), (218, .iload 9, 2, []), (220, .iadd, 1, []), (221, .ifCond .le 7, 3, []), (224, .iconst 1, 1, []), (225, .goto 4, 3, []), (228, .iconst 0, 1, []), (229, .istore 10, 2, []), (231, .aload_n 0, 1, []), (232, .getfield 39, 3, [1474]), (235, .iload 4, 2, []), (237, .iconst 1, 1, []), (238, .isub, 1, []), (239, .iload 7, 2, []), (241, .bipush 9, 2, []), (243, .if_icmp .ne 11, 3, []), (246, .iload 8, 2, []), (248, .iload 9, 2, []), (250, .iadd, 1, []), (251, .goto 13, 3, []), (254, .iload 10, 2, []), (256, .ifCond .eq 7, 3, []), (259, .iconst 1, 1, []), (260, .goto 4, 3, []), (263, .iconst 0, 1, []), (264, .iastore, 1, []), (265, .iinc 6 1, 3, []), (268, .goto (-245), 3, []), (271, .iload 4, 2, []), (273, .ifCond .eq 13, 3, []), (276, .aload_n 0, 1, []), (277, .getfield 39, 3, [1474]), (280, .iconst 0, 1, []), (281, .iaload, 1, []), (282, .iconst 1, 1, []), (283, .if_icmp .ne 7, 3, []), (286, .iconst 1, 1, []), (287, .goto 4, 3, []), (290, .iconst 0, 1, []), (291, .ireturn, 1, [])]
def z_h237 : List (Nat × Nat × Nat × Nat × Nat × Nat × Nat) := []
def z_m238 : zMi := (RX12, yX12_sumOf, cX12_sumOf, 6, some .int, [])
def z_c238 : List zI := [(0, 0, 0, 0), (4, 4, 0, 0), (0, 0, 0, 0), (4, 5, 0, 0), (2, 0, 0, 0), (37, 9, 1, 0), (0, 0, 0, 3), (39, 0, 0, 0), (0, 0, 0, 1), (32, 47, 1, 0), (1, 5, 0, 0), (2, 0, 0, 0), (37, 9, 1, 0), (0, 0, 0, 388), (39, 0, 0, 0), (32, 47, 3, 0), (2, 0, 0, 0), (37, 9, 1, 0), (0, 0, 0, 389), (0, 0, 0, 4), (1, 5, 0, 0), (10, 0, 0, 0), (8, 0, 0, 0), (39, 0, 0, 0), (1, 1, 0, 0), (32, 45, 1, 0), (2, 0, 0, 0), (1, 5, 0, 0), (1, 2, 0, 0), (1, 3, 0, 0), (54, 237, 3, 9), (31, 45, 0, 0), (1, 4, 0, 0), (2, 0, 0, 0), (37, 9, 1, 0), (0, 0, 0, 389), (0, 0, 0, 4), (1, 5, 0, 0), (10, 0, 0, 0), (8, 0, 0, 0), (0, 0, 0, 1), (8, 0, 0, 0), (39, 0, 0, 0), (8, 0, 0, 0), (4, 4, 0, 0), (7, 5, 0, 1), (30, 4, 0, 0), (1, 4, 0, 0), (50, 0, 0, 0)]
def z_i238 : List zJ := [(0, .iconst 0, 1, []), (1, .istore 4, 2, []), (3, .iconst 0, 1, []), (4, .istore 5, 2, []), (6, .aload_n 0, 1, []), (7, .getfield 13, 3, [1458]), (10, .iconst 3, 1, []), (11, .iaload, 1, []), (12, .iconst 1, 1, []), (13, .if_icmp .ne 70, 3, []), (16, .iload 5, 2, []), (18, .aload_n 0, 1, []), (19, .getfield 13, 3, [1458]), (22, .sipush 388, 3, []), (25, .iaload, 1, []), (26, .if_icmp .ge 57, 3, []), (29, .aload_n 0, 1, []), (30, .getfield 13, 3, [1458]), (33, .sipush 389, 3, []), (36, .iconst 4, 1, []), (37, .iload 5, 2, []), (39, .imul, 1, []), (40, .iadd, 1, []), (41, .iaload, 1, []), (42, .iload_n 1, 1, []), (43, .if_icmp .ne 34, 3, []), (46, .aload_n 0, 1, []), (47, .iload 5, 2, []), (49, .iload_n 2, 1, []), (50, .iload_n 3, 1, []), (51, .invokevirtual 291, 3, [1790, 1792, 66, 110, 1793]), (54, .ifCond .eq 23, 3, []), (57, .iload 4, 2, []), (59, .aload_n 0, 1, []), (60, .getfield 13, 3, [1458]), (63, .sipush 389, 3, []), (66, .iconst 4, 1, []), (67, .iload 5, 2, []), (69, .imul, 1, []), (70, .iadd, 1, []), (71, .iconst 1, 1, []), (72, .iadd, 1, []), (73, .iaload, 1, []), (74, .iadd, 1, []), (75, .istore 4, 2, []), (77, .iinc 5 1, 3, []), (80, .goto (-74), 3, []), (83, .iload 4, 2, []), (85, .ireturn, 1, [])]
def z_h238 : List (Nat × Nat × Nat × Nat × Nat × Nat × Nat) := []
def z_m239 : zMi := (RX12, yX12_warmsBy, cX12_warmsBy, 3, some .int, [])
def z_c239 : List zI := [(2, 0, 0, 0), (1, 1, 0, 0), (0, 0, 0, 2), (54, 190, 2, 9), (2, 0, 0, 0), (0, 0, 0, 0), (1, 1, 0, 0), (1, 2, 0, 0), (54, 238, 3, 9), (8, 0, 0, 0), (50, 0, 0, 0)]
def z_i239 : List zJ := [(0, .aload_n 0, 1, []), (1, .iload_n 1, 1, []), (2, .iconst 2, 1, []), (3, .invokevirtual 69, 3, [1770, 1772, 62, 110, 1773]), (6, .aload_n 0, 1, []), (7, .iconst 0, 1, []), (8, .iload_n 1, 1, []), (9, .iload_n 2, 1, []), (10, .invokevirtual 294, 3, [1786, 1788, 65, 110, 1789]), (13, .iadd, 1, []), (14, .ireturn, 1, [])]
def z_h239 : List (Nat × Nat × Nat × Nat × Nat × Nat × Nat) := []
def z_m240 : zMi := (RX12, yX12_dustsBy, cX12_dustsBy, 3, some .int, [])
def z_c240 : List zI := [(2, 0, 0, 0), (1, 1, 0, 0), (0, 0, 0, 1), (54, 190, 2, 9), (2, 0, 0, 0), (0, 0, 0, 1), (1, 1, 0, 0), (1, 2, 0, 0), (54, 238, 3, 9), (8, 0, 0, 0), (50, 0, 0, 0)]
def z_i240 : List zJ := [(0, .aload_n 0, 1, []), (1, .iload_n 1, 1, []), (2, .iconst 1, 1, []), (3, .invokevirtual 69, 3, [1770, 1772, 62, 110, 1773]), (6, .aload_n 0, 1, []), (7, .iconst 1, 1, []), (8, .iload_n 1, 1, []), (9, .iload_n 2, 1, []), (10, .invokevirtual 294, 3, [1786, 1788, 65, 110, 1789]), (13, .iadd, 1, []), (14, .ireturn, 1, [])]
def z_h240 : List (Nat × Nat × Nat × Nat × Nat × Nat × Nat) := []
def z_m241 : zMi := (RX12, yX12_finedBy, cX12_finedBy, 2, some .int, [])
def z_c241 : List zI := [(2, 0, 0, 0), (37, 9, 1, 0), (0, 0, 0, 11), (39, 0, 0, 0), (2, 0, 0, 0), (1, 1, 0, 0), (0, 0, 0, 1), (54, 193, 2, 9), (10, 0, 0, 0), (2, 0, 0, 0), (0, 0, 0, 2), (2, 0, 0, 0), (1, 1, 0, 0), (0, 0, 0, 0), (54, 193, 2, 9), (2, 0, 0, 0), (37, 9, 1, 0), (0, 0, 0, 4), (39, 0, 0, 0), (54, 238, 3, 9), (8, 0, 0, 0), (50, 0, 0, 0)]
def z_i241 : List zJ := [(0, .aload_n 0, 1, []), (1, .getfield 13, 3, [1458]), (4, .bipush 11, 2, []), (6, .iaload, 1, []), (7, .aload_n 0, 1, []), (8, .iload_n 1, 1, []), (9, .iconst 1, 1, []), (10, .invokevirtual 79, 3, [1806, 1808, 70, 110, 1809]), (13, .imul, 1, []), (14, .aload_n 0, 1, []), (15, .iconst 2, 1, []), (16, .aload_n 0, 1, []), (17, .iload_n 1, 1, []), (18, .iconst 0, 1, []), (19, .invokevirtual 79, 3, [1806, 1808, 70, 110, 1809]), (22, .aload_n 0, 1, []), (23, .getfield 13, 3, [1458]), (26, .iconst 4, 1, []), (27, .iaload, 1, []), (28, .invokevirtual 294, 3, [1786, 1788, 65, 110, 1789]), (31, .iadd, 1, []), (32, .ireturn, 1, [])]
def z_h241 : List (Nat × Nat × Nat × Nat × Nat × Nat × Nat) := []
def z_m242 : zMi := (RX12, yX12_hoursOf, cX12_hoursOf, 4, some .int, [])
def z_c242 : List zI := [(0, 0, 0, 0), (4, 2, 0, 0), (0, 0, 0, 0), (4, 3, 0, 0), (1, 3, 0, 0), (0, 0, 0, 24), (32, 22, 3, 0), (1, 2, 0, 0), (2, 0, 0, 0), (1, 3, 0, 0), (54, 186, 1, 9), (1, 1, 0, 0), (32, 17, 1, 0), (0, 0, 0, 1), (1, 3, 0, 0), (13, 0, 0, 0), (30, 18, 0, 0), (0, 0, 0, 0), (17, 0, 0, 0), (4, 2, 0, 0), (7, 3, 0, 1), (30, 4, 0, 0), (1, 2, 0, 0), (50, 0, 0, 0)]
def z_i242 : List zJ := [(0, .iconst 0, 1, []), (1, .istore_n 2, 1, []), (2, .iconst 0, 1, []), (3, .istore_n 3, 1, []), (4, .iload_n 3, 1, []), (5, .bipush 24, 2, []), (7, .if_icmp .ge 28, 3, []), (10, .iload_n 2, 1, []), (11, .aload_n 0, 1, []), (12, .iload_n 3, 1, []), (13, .invokevirtual 61, 3, [1633, 1635, 39, 110, 1636]), (16, .iload_n 1, 1, []), (17, .if_icmp .ne 9, 3, []), (20, .iconst 1, 1, []), (21, .iload_n 3, 1, []), (22, .ishl, 1, []), (23, .goto 4, 3, []), (26, .iconst 0, 1, []), (27, .ior, 1, []), (28, .istore_n 2, 1, []), (29, .iinc 3 1, 3, []), (32, .goto (-28), 3, []), (35, .iload_n 2, 1, []), (36, .ireturn, 1, [])]
def z_h242 : List (Nat × Nat × Nat × Nat × Nat × Nat × Nat) := []
def z_m243 : zMi := (RX12, yX12_shareOf, cX12_shareOf, 2, some .int, [])
def z_c243 : List zI := [(2, 0, 0, 0), (1, 1, 0, 0), (54, 242, 1, 9), (55, 311, 1, 0), (50, 0, 0, 0)]
def z_i243 : List zJ := [(0, .aload_n 0, 1, []), (1, .iload_n 1, 1, []), (2, .invokevirtual 298, 3, [1749, 1751, 58, 110, 1752]), (5, .invokestatic 301, 3, [1757, 482, 126, 483]), (8, .ireturn, 1, [])]
def z_h243 : List (Nat × Nat × Nat × Nat × Nat × Nat × Nat) := []
def z_m244 : zMi := (RX12, yX12_gladOf, cX12_gladOf, 2, some .int, [])
def z_c244 : List zI := [(2, 0, 0, 0), (1, 1, 0, 0), (54, 242, 1, 9), (2, 0, 0, 0), (1, 1, 0, 0), (0, 0, 0, 3), (54, 190, 2, 9), (16, 0, 0, 0), (55, 311, 1, 0), (50, 0, 0, 0)]
def z_i244 : List zJ := [(0, .aload_n 0, 1, []), (1, .iload_n 1, 1, []), (2, .invokevirtual 298, 3, [1749, 1751, 58, 110, 1752]), (5, .aload_n 0, 1, []), (6, .iload_n 1, 1, []), (7, .iconst 3, 1, []), (8, .invokevirtual 69, 3, [1770, 1772, 62, 110, 1773]), (11, .iand, 1, []), (12, .invokestatic 301, 3, [1757, 482, 126, 483]), (15, .ireturn, 1, [])]
def z_h244 : List (Nat × Nat × Nat × Nat × Nat × Nat × Nat) := []
def z_m245 : zMi := (RX12, yX12_rowFrom, cX12_rowFrom, 3, some .int, [])
def z_c245 : List zI := [(0, 0, 0, 0), (4, 2, 0, 0), (1, 2, 0, 0), (0, 0, 0, 24), (32, 15, 3, 0), (1, 0, 0, 0), (1, 1, 0, 0), (1, 2, 0, 0), (8, 0, 0, 0), (0, 0, 0, 24), (12, 0, 0, 0), (55, 178, 2, 0), (31, 15, 0, 0), (7, 2, 0, 1), (30, 2, 0, 0), (1, 2, 0, 0), (50, 0, 0, 0)]
def z_i245 : List zJ := [(0, .iconst 0, 1, []), (1, .istore_n 2, 1, []), (2, .iload_n 2, 1, []), (3, .bipush 24, 2, []), (5, .if_icmp .ge 22, 3, []), (8, .iload_n 0, 1, []), (9, .iload_n 1, 1, []), (10, .iload_n 2, 1, []), (11, .iadd, 1, []), (12, .bipush 24, 2, []), (14, .irem, 1, []), (15, .invokestatic 72, 3, [1630, 1631, 110, 1632]), (18, .ifCond .eq 9, 3, []), (21, .iinc 2 1, 3, []), (24, .goto (-22), 3, []), (27, .iload_n 2, 1, []), (28, .ireturn, 1, [])]
def z_h245 : List (Nat × Nat × Nat × Nat × Nat × Nat × Nat) := []
def z_m246 : zMi := (RX12, yX12_longestOf, cX12_longestOf, 4, some .int, [])
def z_c246 : List zI := [(0, 0, 0, 0), (4, 2, 0, 0), (0, 0, 0, 0), (4, 3, 0, 0), (1, 3, 0, 0), (0, 0, 0, 24), (32, 17, 3, 0), (1, 2, 0, 0), (2, 0, 0, 0), (1, 1, 0, 0), (54, 242, 1, 9), (1, 3, 0, 0), (55, 245, 2, 0), (68, 0, 0, 0), (4, 2, 0, 0), (7, 3, 0, 1), (30, 4, 0, 0), (1, 2, 0, 0), (50, 0, 0, 0)]
def z_i246 : List zJ := [(0, .iconst 0, 1, []), (1, .istore_n 2, 1, []), (2, .iconst 0, 1, []), (3, .istore_n 3, 1, []), (4, .iload_n 3, 1, []), (5, .bipush 24, 2, []), (7, .if_icmp .ge 23, 3, []), (10, .iload_n 2, 1, []), (11, .aload_n 0, 1, []), (12, .iload_n 1, 1, []), (13, .invokevirtual 298, 3, [1749, 1751, 58, 110, 1752]), (16, .iload_n 3, 1, []), (17, .invokestatic 306, 3, [1762, 1763, 110, 1764]), (20, .invokestatic 309, 3, [1765]), (23, .istore_n 2, 1, []), (24, .iinc 3 1, 3, []), (27, .goto (-23), 3, []), (30, .iload_n 2, 1, []), (31, .ireturn, 1, [])]
def z_h246 : List (Nat × Nat × Nat × Nat × Nat × Nat × Nat) := []
def z_m247 : zMi := (RX12, yX12_comesIn, cX12_comesIn, 3, some .int, [])
def z_c247 : List zI := [(0, 0, 0, 0), (4, 2, 0, 0), (1, 2, 0, 0), (0, 0, 0, 24), (32, 21, 3, 0), (2, 0, 0, 0), (2, 0, 0, 0), (37, 9, 1, 0), (0, 0, 0, 4), (39, 0, 0, 0), (1, 2, 0, 0), (8, 0, 0, 0), (0, 0, 0, 24), (12, 0, 0, 0), (54, 186, 1, 9), (1, 1, 0, 0), (32, 19, 1, 0), (1, 2, 0, 0), (50, 0, 0, 0), (7, 2, 0, 1), (30, 2, 0, 0), (0, 0, 0, -1), (50, 0, 0, 0)]
def z_i247 : List zJ := [(0, .iconst 0, 1, []), (1, .istore_n 2, 1, []), (2, .iload_n 2, 1, []), (3, .bipush 24, 2, []), (5, .if_icmp .ge 30, 3, []), (8, .aload_n 0, 1, []), (9, .aload_n 0, 1, []), (10, .getfield 13, 3, [1458]), (13, .iconst 4, 1, []), (14, .iaload, 1, []), (15, .iload_n 2, 1, []), (16, .iadd, 1, []), (17, .bipush 24, 2, []), (19, .irem, 1, []), (20, .invokevirtual 61, 3, [1633, 1635, 39, 110, 1636]), (23, .iload_n 1, 1, []), (24, .if_icmp .ne 5, 3, []), (27, .iload_n 2, 1, []), (28, .ireturn, 1, []), (29, .iinc 2 1, 3, []), (32, .goto (-30), 3, []), (35, .iconst (-1), 1, []), (36, .ireturn, 1, [])]
def z_h247 : List (Nat × Nat × Nat × Nat × Nat × Nat × Nat) := []
def z_m248 : zMi := (RX12, yX12_holds, cX12_holds, 2, some .int, [])
def z_c248 : List zI := [(2, 0, 0, 0), (0, 0, 0, 0), (38, 9, 0, 0), (2, 0, 0, 0), (1, 1, 0, 0), (55, 197, 1, 0), (0, 0, 0, 1), (54, 176, 2, 9), (31, 11, 0, 0), (0, 0, 0, 0), (30, 14, 0, 0), (2, 0, 0, 0), (1, 1, 0, 0), (54, 186, 1, 9), (50, 0, 0, 0)]
def z_i248 : List zJ := [(0, .aload_n 0, 1, []), (1, .iconst 0, 1, []), (2, .putfield 3, 3, [1457]), (5, .aload_n 0, 1, []), (6, .iload_n 1, 1, []), (7, .invokestatic 314, 3, [1735, 1736, 110, 1737]), (10, .iconst 1, 1, []), (11, .invokevirtual 270, 3, [1723, 1725, 56, 110, 1726]), (14, .ifCond .eq 7, 3, []), (17, .iconst 0, 1, []), (18, .goto 8, 3, []), (21, .aload_n 0, 1, []), (22, .iload_n 1, 1, []), (23, .invokevirtual 61, 3, [1633, 1635, 39, 110, 1636]), (26, .ireturn, 1, [])]
def z_h248 : List (Nat × Nat × Nat × Nat × Nat × Nat × Nat) := []
def z_m249 : zMi := (RX12, yX12_family, cX12_family, 3, some .int, [])
def z_c249 : List zI := [(2, 0, 0, 0), (0, 0, 0, 0), (38, 9, 0, 0), (2, 0, 0, 0), (2, 0, 0, 0), (1, 1, 0, 0), (54, 195, 1, 9), (0, 0, 0, 1), (54, 176, 2, 9), (31, 22, 1, 0), (2, 0, 0, 0), (1, 2, 0, 0), (0, 0, 0, 0), (0, 0, 0, 8), (55, 177, 3, 0), (31, 18, 1, 0), (0, 0, 0, 1), (30, 19, 0, 0), (0, 0, 0, 0), (0, 0, 0, 2), (54, 176, 2, 9), (31, 24, 0, 0), (0, 0, 0, 0), (50, 0, 0, 0), (1, 2, 0, 0), (35, 6, 0, 0), (2, 0, 0, 0), (1, 1, 0, 0), (54, 242, 1, 9), (50, 0, 0, 0), (2, 0, 0, 0), (1, 1, 0, 0), (54, 243, 1, 9), (50, 0, 0, 0), (2, 0, 0, 0), (1, 1, 0, 0), (54, 246, 1, 9), (50, 0, 0, 0), (2, 0, 0, 0), (1, 1, 0, 0), (54, 244, 1, 9), (50, 0, 0, 0), (2, 0, 0, 0), (1, 1, 0, 0), (54, 247, 1, 9), (50, 0, 0, 0), (2, 0, 0, 0), (1, 1, 0, 0), (1, 2, 0, 0), (54, 190, 2, 9), (50, 0, 0, 0)]
def z_i249 : List zJ := [(0, .aload_n 0, 1, []), (1, .iconst 0, 1, []), (2, .putfield 3, 3, [1457]), (5, .aload_n 0, 1, []), (6, .aload_n 0, 1, []), (7, .iload_n 1, 1, []), (8, .invokevirtual 317, 3, [1745, 1747, 57, 110, 1748]), (11, .iconst 1, 1, []), (12, .invokevirtual 270, 3, [1723, 1725, 56, 110, 1726]), (15, .ifCond .ne 26, 3, []), (18, .aload_n 0, 1, []), (19, .iload_n 2, 1, []), (20, .iconst 0, 1, []), (21, .bipush 8, 2, []), (23, .invokestatic 86, 3, [1738, 1739, 110, 1740]), (26, .ifCond .ne 7, 3, []), (29, .iconst 1, 1, []), (30, .goto 4, 3, []), (33, .iconst 0, 1, []), (34, .iconst 2, 1, []), (35, .invokevirtual 270, 3, [1723, 1725, 56, 110, 1726]), (38, .ifCond .eq 5, 3, []), (41, .iconst 0, 1, []), (42, .ireturn, 1, []), (43, .iload_n 2, 1, []), (44, .tableswitch 66 4 8 #[36, 42, 48, 54, 60], 36, []), (80, .aload_n 0, 1, []), (81, .iload_n 1, 1, []), (82, .invokevirtual 298, 3, [1749, 1751, 58, 110, 1752]), (85, .ireturn, 1, []), (86, .aload_n 0, 1, []), (87, .iload_n 1, 1, []), (88, .invokevirtual 320, 3, [1753, 1755, 59, 110, 1756]), (91, .ireturn, 1, []), (92, .aload_n 0, 1, []), (93, .iload_n 1, 1, []), (94, .invokevirtual 323, 3, [1758, 1760, 60, 110, 1761]), (97, .ireturn, 1, []), (98, .aload_n 0, 1, []), (99, .iload_n 1, 1, []), (100, .invokevirtual 326, 3, [1766, 1768, 61, 110, 1769]), (103, .ireturn, 1, []), (104, .aload_n 0, 1, []), (105, .iload_n 1, 1, []), (106, .invokevirtual 329, 3, [1774, 1776, 63, 110, 1777]), (109, .ireturn, 1, []), (110, .aload_n 0, 1, []), (111, .iload_n 1, 1, []), (112, .iload_n 2, 1, []), (113, .invokevirtual 69, 3, [1770, 1772, 62, 110, 1773]), (116, .ireturn, 1, [])]
def z_h249 : List (Nat × Nat × Nat × Nat × Nat × Nat × Nat) := []
def z_m250 : zMi := (RX12, yX12_does, cX12_does, 4, some .int, [])
def z_c250 : List zI := [(2, 0, 0, 0), (0, 0, 0, 0), (38, 9, 0, 0), (2, 0, 0, 0), (2, 0, 0, 0), (1, 1, 0, 0), (54, 195, 1, 9), (31, 11, 1, 0), (1, 2, 0, 0), (55, 197, 1, 0), (31, 13, 0, 0), (0, 0, 0, 1), (30, 14, 0, 0), (0, 0, 0, 0), (0, 0, 0, 1), (54, 176, 2, 9), (31, 29, 1, 0), (2, 0, 0, 0), (1, 3, 0, 0), (0, 0, 0, 0), (0, 0, 0, 1), (55, 177, 3, 0), (31, 25, 1, 0), (0, 0, 0, 1), (30, 26, 0, 0), (0, 0, 0, 0), (0, 0, 0, 2), (54, 176, 2, 9), (31, 31, 0, 0), (0, 0, 0, 0), (50, 0, 0, 0), (1, 3, 0, 0), (31, 38, 1, 0), (2, 0, 0, 0), (1, 1, 0, 0), (1, 2, 0, 0), (54, 239, 2, 9), (30, 42, 0, 0), (2, 0, 0, 0), (1, 1, 0, 0), (1, 2, 0, 0), (54, 240, 2, 9), (50, 0, 0, 0)]
def z_i250 : List zJ := [(0, .aload_n 0, 1, []), (1, .iconst 0, 1, []), (2, .putfield 3, 3, [1457]), (5, .aload_n 0, 1, []), (6, .aload_n 0, 1, []), (7, .iload_n 1, 1, []), (8, .invokevirtual 317, 3, [1745, 1747, 57, 110, 1748]), (11, .ifCond .ne 10, 3, []), (14, .iload_n 2, 1, []), (15, .invokestatic 314, 3, [1735, 1736, 110, 1737]), (18, .ifCond .eq 7, 3, []), (21, .iconst 1, 1, []), (22, .goto 4, 3, []), (25, .iconst 0, 1, []), (26, .iconst 1, 1, []), (27, .invokevirtual 270, 3, [1723, 1725, 56, 110, 1726]), (30, .ifCond .ne 25, 3, []), (33, .aload_n 0, 1, []), (34, .iload_n 3, 1, []), (35, .iconst 0, 1, []), (36, .iconst 1, 1, []), (37, .invokestatic 86, 3, [1738, 1739, 110, 1740]), (40, .ifCond .ne 7, 3, []), (43, .iconst 1, 1, []), (44, .goto 4, 3, []), (47, .iconst 0, 1, []), (48, .iconst 2, 1, []), (49, .invokevirtual 270, 3, [1723, 1725, 56, 110, 1726]), (52, .ifCond .eq 5, 3, []), (55, .iconst 0, 1, []), (56, .ireturn, 1, []), (57, .iload_n 3, 1, []), (58, .ifCond .ne 12, 3, []), (61, .aload_n 0, 1, []), (62, .iload_n 1, 1, []), (63, .iload_n 2, 1, []), (64, .invokevirtual 332, 3, [1782, 1784, 64, 110, 1785]), (67, .goto 9, 3, []), (70, .aload_n 0, 1, []), (71, .iload_n 1, 1, []), (72, .iload_n 2, 1, []), (73, .invokevirtual 335, 3, [1821, 1823, 73, 110, 1824]), (76, .ireturn, 1, [])]
def z_h250 : List (Nat × Nat × Nat × Nat × Nat × Nat × Nat) := []
def z_m251 : zMi := (RX12, yX12_thing, cX12_thing, 3, some .int, [])
def z_c251 : List zI := [(2, 0, 0, 0), (0, 0, 0, 0), (38, 9, 0, 0), (2, 0, 0, 0), (2, 0, 0, 0), (1, 1, 0, 0), (54, 196, 1, 9), (0, 0, 0, 1), (54, 176, 2, 9), (31, 22, 1, 0), (2, 0, 0, 0), (1, 2, 0, 0), (0, 0, 0, 0), (0, 0, 0, 3), (55, 177, 3, 0), (31, 18, 1, 0), (0, 0, 0, 1), (30, 19, 0, 0), (0, 0, 0, 0), (0, 0, 0, 2), (54, 176, 2, 9), (31, 24, 0, 0), (0, 0, 0, 0), (50, 0, 0, 0), (1, 2, 0, 0), (0, 0, 0, 3), (32, 31, 1, 0), (2, 0, 0, 0), (1, 1, 0, 0), (54, 241, 1, 9), (30, 35, 0, 0), (2, 0, 0, 0), (1, 1, 0, 0), (1, 2, 0, 0), (54, 193, 2, 9), (50, 0, 0, 0)]
def z_i251 : List zJ := [(0, .aload_n 0, 1, []), (1, .iconst 0, 1, []), (2, .putfield 3, 3, [1457]), (5, .aload_n 0, 1, []), (6, .aload_n 0, 1, []), (7, .iload_n 1, 1, []), (8, .invokevirtual 338, 3, [1829, 1831, 74, 110, 1832]), (11, .iconst 1, 1, []), (12, .invokevirtual 270, 3, [1723, 1725, 56, 110, 1726]), (15, .ifCond .ne 25, 3, []), (18, .aload_n 0, 1, []), (19, .iload_n 2, 1, []), (20, .iconst 0, 1, []), (21, .iconst 3, 1, []), (22, .invokestatic 86, 3, [1738, 1739, 110, 1740]), (25, .ifCond .ne 7, 3, []), (28, .iconst 1, 1, []), (29, .goto 4, 3, []), (32, .iconst 0, 1, []), (33, .iconst 2, 1, []), (34, .invokevirtual 270, 3, [1723, 1725, 56, 110, 1726]), (37, .ifCond .eq 5, 3, []), (40, .iconst 0, 1, []), (41, .ireturn, 1, []), (42, .iload_n 2, 1, []), (43, .iconst 3, 1, []), (44, .if_icmp .ne 11, 3, []), (47, .aload_n 0, 1, []), (48, .iload_n 1, 1, []), (49, .invokevirtual 341, 3, [1833, 1835, 75, 110, 1836]), (52, .goto 9, 3, []), (55, .aload_n 0, 1, []), (56, .iload_n 1, 1, []), (57, .iload_n 2, 1, []), (58, .invokevirtual 79, 3, [1806, 1808, 70, 110, 1809]), (61, .ireturn, 1, [])]
def z_h251 : List (Nat × Nat × Nat × Nat × Nat × Nat × Nat) := []
def z_m252 : zMi := (RX12, yX12_sell, cX12_sell, 4, some .int, [])
def z_c252 : List zI := [(2, 0, 0, 0), (0, 0, 0, 0), (38, 9, 0, 0), (2, 0, 0, 0), (1, 1, 0, 0), (55, 197, 1, 0), (31, 11, 1, 0), (2, 0, 0, 0), (1, 2, 0, 0), (54, 195, 1, 9), (31, 13, 0, 0), (0, 0, 0, 1), (30, 14, 0, 0), (0, 0, 0, 0), (0, 0, 0, 1), (54, 176, 2, 9), (31, 50, 1, 0), (2, 0, 0, 0), (2, 0, 0, 0), (1, 1, 0, 0), (54, 186, 1, 9), (1, 2, 0, 0), (32, 25, 1, 0), (0, 0, 0, 1), (30, 26, 0, 0), (0, 0, 0, 0), (0, 0, 0, 2), (54, 176, 2, 9), (31, 50, 1, 0), (2, 0, 0, 0), (2, 0, 0, 0), (1, 1, 0, 0), (54, 186, 1, 9), (0, 0, 0, -1), (32, 44, 0, 0), (2, 0, 0, 0), (1, 2, 0, 0), (0, 0, 0, 0), (54, 190, 2, 9), (2, 0, 0, 0), (37, 9, 1, 0), (0, 0, 0, 12), (39, 0, 0, 0), (32, 46, 3, 0), (0, 0, 0, 1), (30, 47, 0, 0), (0, 0, 0, 0), (0, 0, 0, 3), (54, 176, 2, 9), (31, 52, 0, 0), (0, 0, 0, 0), (50, 0, 0, 0), (2, 0, 0, 0), (54, 182, 0, 9), (2, 0, 0, 0), (1, 1, 0, 0), (54, 186, 1, 9), (4, 3, 0, 0), (2, 0, 0, 0), (37, 9, 1, 0), (1, 2, 0, 0), (0, 0, 0, 0), (55, 189, 2, 0), (28, 0, 0, 0), (39, 0, 0, 0), (2, 0, 0, 0), (37, 9, 1, 0), (0, 0, 0, 12), (39, 0, 0, 0), (9, 0, 0, 0), (40, 0, 0, 0), (2, 0, 0, 0), (37, 9, 1, 0), (1, 3, 0, 0), (0, 0, 0, 0), (55, 189, 2, 0), (0, 0, 0, 9999), (2, 0, 0, 0), (1, 3, 0, 0), (0, 0, 0, 0), (54, 190, 2, 9), (2, 0, 0, 0), (37, 9, 1, 0), (0, 0, 0, 12), (39, 0, 0, 0), (8, 0, 0, 0), (67, 0, 0, 0), (40, 0, 0, 0), (2, 0, 0, 0), (37, 9, 1, 0), (0, 0, 0, 16), (1, 1, 0, 0), (8, 0, 0, 0), (1, 2, 0, 0), (40, 0, 0, 0), (2, 0, 0, 0), (1, 3, 0, 0), (0, 0, 0, 0), (54, 190, 2, 9), (50, 0, 0, 0)]
def z_i252 : List zJ := [(0, .aload_n 0, 1, []), (1, .iconst 0, 1, []), (2, .putfield 3, 3, [1457]), (5, .aload_n 0, 1, []), (6, .iload_n 1, 1, []), (7, .invokestatic 314, 3, [1735, 1736, 110, 1737]), (10, .ifCond .ne 11, 3, []), (13, .aload_n 0, 1, []), (14, .iload_n 2, 1, []), (15, .invokevirtual 317, 3, [1745, 1747, 57, 110, 1748]), (18, .ifCond .eq 7, 3, []), (21, .iconst 1, 1, []), (22, .goto 4, 3, []), (25, .iconst 0, 1, []), (26, .iconst 1, 1, []), (27, .invokevirtual 270, 3, [1723, 1725, 56, 110, 1726]), (30, .ifCond .ne 63, 3, []), (33, .aload_n 0, 1, []), (34, .aload_n 0, 1, []), (35, .iload_n 1, 1, []), (36, .invokevirtual 61, 3, [1633, 1635, 39, 110, 1636]), (39, .iload_n 2, 1, []), (40, .if_icmp .ne 7, 3, []), (43, .iconst 1, 1, []), (44, .goto 4, 3, []), (47, .iconst 0, 1, []), (48, .iconst 2, 1, []), (49, .invokevirtual 270, 3, [1723, 1725, 56, 110, 1726]), (52, .ifCond .ne 41, 3, []), (55, .aload_n 0, 1, []), (56, .aload_n 0, 1, []), (57, .iload_n 1, 1, []), (58, .invokevirtual 61, 3, [1633, 1635, 39, 110, 1636]), (61, .iconst (-1), 1, []), (62, .if_icmp .eq 19, 3, []), (65, .aload_n 0, 1, []), (66, .iload_n 2, 1, []), (67, .iconst 0, 1, []), (68, .invokevirtual 69, 3, [1770, 1772, 62, 110, 1773]), (71, .aload_n 0, 1, []), (72, .getfield 13, 3, [1458]), (75, .bipush 12, 2, []), (77, .iaload, 1, []), (78, .if_icmp .ge 7, 3, []), (81, .iconst 1, 1, []), (82, .goto 4, 3, []), (85, .iconst 0, 1, []), (86, .iconst 3, 1, []), (87, .invokevirtual 270, 3, [1723, 1725, 56, 110, 1726]), (90, .ifCond .eq 5, 3, []), (93, .iconst 0, 1, []), (94, .ireturn, 1, []), (95, .aload_n 0, 1, []), (96, .invokevirtual 344, 3, [1841, 1843, 76, 110, 1844]), (99, .aload_n 0, 1, []), (100, .iload_n 1, 1, []), (101, .invokevirtual 61, 3, [1633, 1635, 39, 110, 1636]), (104, .istore_n 3, 1, []), (105, .aload_n 0, 1, []), (106, .getfield 13, 3, [1458]), (109, .iload_n 2, 1, []), (110, .iconst 0, 1, []), (111, .invokestatic 65, 3, [1623, 1624, 110, 1625]), (114, .dup2, 1, []), (115, .iaload, 1, []), (116, .aload_n 0, 1, []), (117, .getfield 13, 3, [1458]), (120, .bipush 12, 2, []), (122, .iaload, 1, []), (123, .isub, 1, []), (124, .iastore, 1, []), (125, .aload_n 0, 1, []), (126, .getfield 13, 3, [1458]), (129, .iload_n 3, 1, []), (130, .iconst 0, 1, []), (131, .invokestatic 65, 3, [1623, 1624, 110, 1625]), (134, .sipush 9999, 3, []), (137, .aload_n 0, 1, []), (138, .iload_n 3, 1, []), (139, .iconst 0, 1, []), (140, .invokevirtual 69, 3, [1770, 1772, 62, 110, 1773]), (143, .aload_n 0, 1, []), (144, .getfield 13, 3, [1458]), (147, .bipush 12, 2, []), (149, .iaload, 1, []), (150, .iadd, 1, []), (151, .invokestatic 347, 3, [1845]), (154, .iastore, 1, []), (155, .aload_n 0, 1, []), (156, .getfield 13, 3, [1458]), (159, .bipush 16, 2, []), (161, .iload_n 1, 1, []), (162, .iadd, 1, []), (163, .iload_n 2, 1, []), (164, .iastore, 1, []), (165, .aload_n 0, 1, []), (166, .iload_n 3, 1, []), (167, .iconst 0, 1, []), (168, .invokevirtual 69, 3, [1770, 1772, 62, 110, 1773]), (171, .ireturn, 1, [])]
def z_h252 : List (Nat × Nat × Nat × Nat × Nat × Nat × Nat) := []
def z_m253 : zMi := (RX12, yX12_buy, cX12_buy, 3, some .int, [])
def z_c253 : List zI := [(2, 0, 0, 0), (0, 0, 0, 0), (38, 9, 0, 0), (2, 0, 0, 0), (1, 1, 0, 0), (55, 197, 1, 0), (31, 11, 1, 0), (2, 0, 0, 0), (1, 2, 0, 0), (54, 195, 1, 9), (31, 13, 0, 0), (0, 0, 0, 1), (30, 14, 0, 0), (0, 0, 0, 0), (0, 0, 0, 1), (54, 176, 2, 9), (31, 38, 1, 0), (2, 0, 0, 0), (2, 0, 0, 0), (1, 1, 0, 0), (54, 186, 1, 9), (0, 0, 0, -1), (32, 32, 1, 0), (2, 0, 0, 0), (1, 2, 0, 0), (0, 0, 0, 0), (54, 190, 2, 9), (2, 0, 0, 0), (37, 9, 1, 0), (0, 0, 0, 12), (39, 0, 0, 0), (32, 34, 3, 0), (0, 0, 0, 1), (30, 35, 0, 0), (0, 0, 0, 0), (0, 0, 0, 2), (54, 176, 2, 9), (31, 40, 0, 0), (0, 0, 0, 0), (50, 0, 0, 0), (2, 0, 0, 0), (54, 182, 0, 9), (2, 0, 0, 0), (37, 9, 1, 0), (1, 2, 0, 0), (0, 0, 0, 0), (55, 189, 2, 0), (28, 0, 0, 0), (39, 0, 0, 0), (2, 0, 0, 0), (37, 9, 1, 0), (0, 0, 0, 12), (39, 0, 0, 0), (9, 0, 0, 0), (40, 0, 0, 0), (2, 0, 0, 0), (37, 9, 1, 0), (0, 0, 0, 16), (1, 1, 0, 0), (8, 0, 0, 0), (1, 2, 0, 0), (40, 0, 0, 0), (2, 0, 0, 0), (1, 2, 0, 0), (0, 0, 0, 0), (54, 190, 2, 9), (50, 0, 0, 0)]
def z_i253 : List zJ := [(0, .aload_n 0, 1, []), (1, .iconst 0, 1, []), (2, .putfield 3, 3, [1457]), (5, .aload_n 0, 1, []), (6, .iload_n 1, 1, []), (7, .invokestatic 314, 3, [1735, 1736, 110, 1737]), (10, .ifCond .ne 11, 3, []), (13, .aload_n 0, 1, []), (14, .iload_n 2, 1, []), (15, .invokevirtual 317, 3, [1745, 1747, 57, 110, 1748]), (18, .ifCond .eq 7, 3, []), (21, .iconst 1, 1, []), (22, .goto 4, 3, []), (25, .iconst 0, 1, []), (26, .iconst 1, 1, []), (27, .invokevirtual 270, 3, [1723, 1725, 56, 110, 1726]), (30, .ifCond .ne 41, 3, []), (33, .aload_n 0, 1, []), (34, .aload_n 0, 1, []), (35, .iload_n 1, 1, []), (36, .invokevirtual 61, 3, [1633, 1635, 39, 110, 1636]), (39, .iconst (-1), 1, []), (40, .if_icmp .ne 19, 3, []), (43, .aload_n 0, 1, []), (44, .iload_n 2, 1, []), (45, .iconst 0, 1, []), (46, .invokevirtual 69, 3, [1770, 1772, 62, 110, 1773]), (49, .aload_n 0, 1, []), (50, .getfield 13, 3, [1458]), (53, .bipush 12, 2, []), (55, .iaload, 1, []), (56, .if_icmp .ge 7, 3, []), (59, .iconst 1, 1, []), (60, .goto 4, 3, []), (63, .iconst 0, 1, []), (64, .iconst 2, 1, []), (65, .invokevirtual 270, 3, [1723, 1725, 56, 110, 1726]), (68, .ifCond .eq 5, 3, []), (71, .iconst 0, 1, []), (72, .ireturn, 1, []), (73, .aload_n 0, 1, []), (74, .invokevirtual 344, 3, [1841, 1843, 76, 110, 1844]), (77, .aload_n 0, 1, []), (78, .getfield 13, 3, [1458]), (81, .iload_n 2, 1, []), (82, .iconst 0, 1, []), (83, .invokestatic 65, 3, [1623, 1624, 110, 1625]), (86, .dup2, 1, []), (87, .iaload, 1, []), (88, .aload_n 0, 1, []), (89, .getfield 13, 3, [1458]), (92, .bipush 12, 2, []), (94, .iaload, 1, []), (95, .isub, 1, []), (96, .iastore, 1, []), (97, .aload_n 0, 1, []), (98, .getfield 13, 3, [1458]), (101, .bipush 16, 2, []), (103, .iload_n 1, 1, []), (104, .iadd, 1, []), (105, .iload_n 2, 1, []), (106, .iastore, 1, []), (107, .aload_n 0, 1, []), (108, .iload_n 2, 1, []), (109, .iconst 0, 1, []), (110, .invokevirtual 69, 3, [1770, 1772, 62, 110, 1773]), (113, .ireturn, 1, [])]
def z_h253 : List (Nat × Nat × Nat × Nat × Nat × Nat × Nat) := []
def z_m254 : zMi := (RX12, yX12_exchanges, cX12_exchanges, 4, none, [])
def z_c254 : List zI := [(2, 0, 0, 0), (1, 1, 0, 0), (54, 186, 1, 9), (4, 3, 0, 0), (2, 0, 0, 0), (37, 9, 1, 0), (0, 0, 0, 16), (1, 1, 0, 0), (8, 0, 0, 0), (2, 0, 0, 0), (1, 2, 0, 0), (54, 186, 1, 9), (40, 0, 0, 0), (2, 0, 0, 0), (37, 9, 1, 0), (0, 0, 0, 16), (1, 2, 0, 0), (8, 0, 0, 0), (1, 3, 0, 0), (40, 0, 0, 0), (53, 0, 0, 0)]
def z_i254 : List zJ := [(0, .aload_n 0, 1, []), (1, .iload_n 1, 1, []), (2, .invokevirtual 61, 3, [1633, 1635, 39, 110, 1636]), (5, .istore_n 3, 1, []), (6, .aload_n 0, 1, []), (7, .getfield 13, 3, [1458]), (10, .bipush 16, 2, []), (12, .iload_n 1, 1, []), (13, .iadd, 1, []), (14, .aload_n 0, 1, []), (15, .iload_n 2, 1, []), (16, .invokevirtual 61, 3, [1633, 1635, 39, 110, 1636]), (19, .iastore, 1, []), (20, .aload_n 0, 1, []), (21, .getfield 13, 3, [1458]), (24, .bipush 16, 2, []), (26, .iload_n 2, 1, []), (27, .iadd, 1, []), (28, .iload_n 3, 1, []), (29, .iastore, 1, []), (30, .return_, 1, [])]
def z_h254 : List (Nat × Nat × Nat × Nat × Nat × Nat × Nat) := []
def z_m255 : zMi := (RX12, yX12_swap, cX12_swap, 3, some .int, [])
def z_c255 : List zI := [(2, 0, 0, 0), (0, 0, 0, 0), (38, 9, 0, 0), (2, 0, 0, 0), (1, 1, 0, 0), (55, 197, 1, 0), (31, 10, 1, 0), (1, 2, 0, 0), (55, 197, 1, 0), (31, 12, 0, 0), (0, 0, 0, 1), (30, 13, 0, 0), (0, 0, 0, 0), (0, 0, 0, 1), (54, 176, 2, 9), (31, 26, 1, 0), (2, 0, 0, 0), (1, 1, 0, 0), (1, 2, 0, 0), (32, 22, 1, 0), (0, 0, 0, 1), (30, 23, 0, 0), (0, 0, 0, 0), (0, 0, 0, 2), (54, 176, 2, 9), (31, 28, 0, 0), (0, 0, 0, 0), (50, 0, 0, 0), (2, 0, 0, 0), (2, 0, 0, 0), (1, 1, 0, 0), (54, 186, 1, 9), (0, 0, 0, -1), (32, 46, 0, 0), (2, 0, 0, 0), (1, 2, 0, 0), (54, 186, 1, 9), (0, 0, 0, -1), (32, 46, 0, 0), (2, 0, 0, 0), (1, 1, 0, 0), (54, 186, 1, 9), (2, 0, 0, 0), (1, 2, 0, 0), (54, 186, 1, 9), (32, 48, 1, 0), (0, 0, 0, 1), (30, 49, 0, 0), (0, 0, 0, 0), (0, 0, 0, 3), (54, 176, 2, 9), (31, 54, 0, 0), (0, 0, 0, 0), (50, 0, 0, 0), (2, 0, 0, 0), (54, 182, 0, 9), (2, 0, 0, 0), (1, 1, 0, 0), (1, 2, 0, 0), (54, 254, 2, 9), (2, 0, 0, 0), (1, 1, 0, 0), (54, 186, 1, 9), (50, 0, 0, 0)]
def z_i255 : List zJ := [(0, .aload_n 0, 1, []), (1, .iconst 0, 1, []), (2, .putfield 3, 3, [1457]), (5, .aload_n 0, 1, []), (6, .iload_n 1, 1, []), (7, .invokestatic 314, 3, [1735, 1736, 110, 1737]), (10, .ifCond .ne 10, 3, []), (13, .iload_n 2, 1, []), (14, .invokestatic 314, 3, [1735, 1736, 110, 1737]), (17, .ifCond .eq 7, 3, []), (20, .iconst 1, 1, []), (21, .goto 4, 3, []), (24, .iconst 0, 1, []), (25, .iconst 1, 1, []), (26, .invokevirtual 270, 3, [1723, 1725, 56, 110, 1726]), (29, .ifCond .ne 21, 3, []), (32, .aload_n 0, 1, []), (33, .iload_n 1, 1, []), (34, .iload_n 2, 1, []), (35, .if_icmp .ne 7, 3, []), (38, .iconst 1, 1, []), (39, .goto 4, 3, []), (42, .iconst 0, 1, []), (43, .iconst 2, 1, []), (44, .invokevirtual 270, 3, [1723, 1725, 56, 110, 1726]), (47, .ifCond .eq 5, 3, []), (50, .iconst 0, 1, []), (51, .ireturn, 1, []), (52, .aload_n 0, 1, []), (53, .aload_n 0, 1, []), (54, .iload_n 1, 1, []), (55, .invokevirtual 61, 3, [1633, 1635, 39, 110, 1636]), (58, .iconst (-1), 1, []), (59, .if_icmp .eq 25, 3, []), (62, .aload_n 0, 1, []), (63, .iload_n 2, 1, []), (64, .invokevirtual 61, 3, [1633, 1635, 39, 110, 1636]), (67, .iconst (-1), 1, []), (68, .if_icmp .eq 16, 3, []), (71, .aload_n 0, 1, []), (72, .iload_n 1, 1, []), (73, .invokevirtual 61, 3, [1633, 1635, 39, 110, 1636]), (76, .aload_n 0, 1, []), (77, .iload_n 2, 1, []), (78, .invokevirtual 61, 3, [1633, 1635, 39, 110, 1636]), (81, .if_icmp .ne 7, 3, []), (84, .iconst 1, 1, []), (85, .goto 4, 3, []), (88, .iconst 0, 1, []), (89, .iconst 3, 1, []), (90, .invokevirtual 270, 3, [1723, 1725, 56, 110, 1726]), (93, .ifCond .eq 5, 3, []), (96, .iconst 0, 1, []), (97, .ireturn, 1, []), (98, .aload_n 0, 1, []), (99, .invokevirtual 344, 3, [1841, 1843, 76, 110, 1844]), (102, .aload_n 0, 1, []), (103, .iload_n 1, 1, []), (104, .iload_n 2, 1, []), (105, .invokevirtual 350, 3, [1854, 1856, 77, 110, 1857]), (108, .aload_n 0, 1, []), (109, .iload_n 1, 1, []), (110, .invokevirtual 61, 3, [1633, 1635, 39, 110, 1636]), (113, .ireturn, 1, [])]
def z_h255 : List (Nat × Nat × Nat × Nat × Nat × Nat × Nat) := []
def z_m256 : zMi := (RX12, yX12_free, cX12_free, 3, some .int, [])
def z_c256 : List zI := [(2, 0, 0, 0), (0, 0, 0, 0), (38, 9, 0, 0), (2, 0, 0, 0), (1, 1, 0, 0), (55, 197, 1, 0), (0, 0, 0, 1), (54, 176, 2, 9), (31, 21, 1, 0), (2, 0, 0, 0), (2, 0, 0, 0), (1, 1, 0, 0), (54, 186, 1, 9), (0, 0, 0, -1), (32, 17, 1, 0), (0, 0, 0, 1), (30, 18, 0, 0), (0, 0, 0, 0), (0, 0, 0, 2), (54, 176, 2, 9), (31, 23, 0, 0), (0, 0, 0, 0), (50, 0, 0, 0), (2, 0, 0, 0), (54, 182, 0, 9), (2, 0, 0, 0), (1, 1, 0, 0), (54, 186, 1, 9), (4, 2, 0, 0), (2, 0, 0, 0), (37, 9, 1, 0), (0, 0, 0, 16), (1, 1, 0, 0), (8, 0, 0, 0), (0, 0, 0, -1), (40, 0, 0, 0), (1, 2, 0, 0), (50, 0, 0, 0)]
def z_i256 : List zJ := [(0, .aload_n 0, 1, []), (1, .iconst 0, 1, []), (2, .putfield 3, 3, [1457]), (5, .aload_n 0, 1, []), (6, .iload_n 1, 1, []), (7, .invokestatic 314, 3, [1735, 1736, 110, 1737]), (10, .iconst 1, 1, []), (11, .invokevirtual 270, 3, [1723, 1725, 56, 110, 1726]), (14, .ifCond .ne 25, 3, []), (17, .aload_n 0, 1, []), (18, .aload_n 0, 1, []), (19, .iload_n 1, 1, []), (20, .invokevirtual 61, 3, [1633, 1635, 39, 110, 1636]), (23, .iconst (-1), 1, []), (24, .if_icmp .ne 7, 3, []), (27, .iconst 1, 1, []), (28, .goto 4, 3, []), (31, .iconst 0, 1, []), (32, .iconst 2, 1, []), (33, .invokevirtual 270, 3, [1723, 1725, 56, 110, 1726]), (36, .ifCond .eq 5, 3, []), (39, .iconst 0, 1, []), (40, .ireturn, 1, []), (41, .aload_n 0, 1, []), (42, .invokevirtual 344, 3, [1841, 1843, 76, 110, 1844]), (45, .aload_n 0, 1, []), (46, .iload_n 1, 1, []), (47, .invokevirtual 61, 3, [1633, 1635, 39, 110, 1636]), (50, .istore_n 2, 1, []), (51, .aload_n 0, 1, []), (52, .getfield 13, 3, [1458]), (55, .bipush 16, 2, []), (57, .iload_n 1, 1, []), (58, .iadd, 1, []), (59, .iconst (-1), 1, []), (60, .iastore, 1, []), (61, .iload_n 2, 1, []), (62, .ireturn, 1, [])]
def z_h256 : List (Nat × Nat × Nat × Nat × Nat × Nat × Nat) := []
def z_m257 : zMi := (RX12, yX12_isLaid, cX12_isLaid, 3, some .int, [])
def z_c257 : List zI := [(2, 0, 0, 0), (54, 182, 0, 9), (2, 0, 0, 0), (37, 9, 1, 0), (1, 1, 0, 0), (0, 0, 0, 2), (55, 192, 2, 0), (1, 2, 0, 0), (40, 0, 0, 0), (2, 0, 0, 0), (2, 0, 0, 0), (54, 233, 0, 9), (54, 234, 1, 9), (50, 0, 0, 0)]
def z_i257 : List zJ := [(0, .aload_n 0, 1, []), (1, .invokevirtual 344, 3, [1841, 1843, 76, 110, 1844]), (4, .aload_n 0, 1, []), (5, .getfield 13, 3, [1458]), (8, .iload_n 1, 1, []), (9, .iconst 2, 1, []), (10, .invokestatic 76, 3, [1660, 1661, 110, 1662]), (13, .iload_n 2, 1, []), (14, .iastore, 1, []), (15, .aload_n 0, 1, []), (16, .aload_n 0, 1, []), (17, .invokevirtual 276, 3, [1798, 1800, 68, 110, 1801]), (20, .invokevirtual 279, 3, [1810, 1812, 71, 110, 1813]), (23, .ireturn, 1, [])]
def z_h257 : List (Nat × Nat × Nat × Nat × Nat × Nat × Nat) := []
def z_m258 : zMi := (RX12, yX12_leave, cX12_leave, 2, some .int, [])
def z_c258 : List zI := [(2, 0, 0, 0), (0, 0, 0, 0), (38, 9, 0, 0), (2, 0, 0, 0), (2, 0, 0, 0), (1, 1, 0, 0), (54, 196, 1, 9), (0, 0, 0, 1), (54, 176, 2, 9), (31, 28, 1, 0), (2, 0, 0, 0), (2, 0, 0, 0), (1, 1, 0, 0), (0, 0, 0, 0), (54, 193, 2, 9), (2, 0, 0, 0), (54, 188, 0, 9), (32, 22, 1, 0), (2, 0, 0, 0), (1, 1, 0, 0), (54, 194, 1, 9), (31, 24, 0, 0), (0, 0, 0, 1), (30, 25, 0, 0), (0, 0, 0, 0), (0, 0, 0, 2), (54, 176, 2, 9), (31, 30, 0, 0), (0, 0, 0, 0), (50, 0, 0, 0), (2, 0, 0, 0), (1, 1, 0, 0), (0, 0, 0, 1), (54, 257, 2, 9), (50, 0, 0, 0)]
def z_i258 : List zJ := [(0, .aload_n 0, 1, []), (1, .iconst 0, 1, []), (2, .putfield 3, 3, [1457]), (5, .aload_n 0, 1, []), (6, .aload_n 0, 1, []), (7, .iload_n 1, 1, []), (8, .invokevirtual 338, 3, [1829, 1831, 74, 110, 1832]), (11, .iconst 1, 1, []), (12, .invokevirtual 270, 3, [1723, 1725, 56, 110, 1726]), (15, .ifCond .ne 37, 3, []), (18, .aload_n 0, 1, []), (19, .aload_n 0, 1, []), (20, .iload_n 1, 1, []), (21, .iconst 0, 1, []), (22, .invokevirtual 79, 3, [1806, 1808, 70, 110, 1809]), (25, .aload_n 0, 1, []), (26, .invokevirtual 353, 3, [1866, 1868, 78, 110, 1869]), (29, .if_icmp .ne 11, 3, []), (32, .aload_n 0, 1, []), (33, .iload_n 1, 1, []), (34, .invokevirtual 273, 3, [1802, 1804, 69, 110, 1805]), (37, .ifCond .eq 7, 3, []), (40, .iconst 1, 1, []), (41, .goto 4, 3, []), (44, .iconst 0, 1, []), (45, .iconst 2, 1, []), (46, .invokevirtual 270, 3, [1723, 1725, 56, 110, 1726]), (49, .ifCond .eq 5, 3, []), (52, .iconst 0, 1, []), (53, .ireturn, 1, []), (54, .aload_n 0, 1, []), (55, .iload_n 1, 1, []), (56, .iconst 1, 1, []), (57, .invokevirtual 356, 3, [1870, 1872, 79, 110, 1873]), (60, .ireturn, 1, [])]
def z_h258 : List (Nat × Nat × Nat × Nat × Nat × Nat × Nat) := []
def z_m259 : zMi := (RX12, yX12_fetch, cX12_fetch, 2, some .int, [])
def z_c259 : List zI := [(2, 0, 0, 0), (0, 0, 0, 0), (38, 9, 0, 0), (2, 0, 0, 0), (2, 0, 0, 0), (1, 1, 0, 0), (54, 196, 1, 9), (0, 0, 0, 1), (54, 176, 2, 9), (31, 28, 1, 0), (2, 0, 0, 0), (2, 0, 0, 0), (1, 1, 0, 0), (0, 0, 0, 0), (54, 193, 2, 9), (2, 0, 0, 0), (54, 188, 0, 9), (32, 22, 1, 0), (2, 0, 0, 0), (1, 1, 0, 0), (54, 194, 1, 9), (31, 24, 1, 0), (0, 0, 0, 1), (30, 25, 0, 0), (0, 0, 0, 0), (0, 0, 0, 2), (54, 176, 2, 9), (31, 30, 0, 0), (0, 0, 0, 0), (50, 0, 0, 0), (2, 0, 0, 0), (1, 1, 0, 0), (0, 0, 0, 0), (54, 257, 2, 9), (50, 0, 0, 0)]
def z_i259 : List zJ := [(0, .aload_n 0, 1, []), (1, .iconst 0, 1, []), (2, .putfield 3, 3, [1457]), (5, .aload_n 0, 1, []), (6, .aload_n 0, 1, []), (7, .iload_n 1, 1, []), (8, .invokevirtual 338, 3, [1829, 1831, 74, 110, 1832]), (11, .iconst 1, 1, []), (12, .invokevirtual 270, 3, [1723, 1725, 56, 110, 1726]), (15, .ifCond .ne 37, 3, []), (18, .aload_n 0, 1, []), (19, .aload_n 0, 1, []), (20, .iload_n 1, 1, []), (21, .iconst 0, 1, []), (22, .invokevirtual 79, 3, [1806, 1808, 70, 110, 1809]), (25, .aload_n 0, 1, []), (26, .invokevirtual 353, 3, [1866, 1868, 78, 110, 1869]), (29, .if_icmp .ne 11, 3, []), (32, .aload_n 0, 1, []), (33, .iload_n 1, 1, []), (34, .invokevirtual 273, 3, [1802, 1804, 69, 110, 1805]), (37, .ifCond .ne 7, 3, []), (40, .iconst 1, 1, []), (41, .goto 4, 3, []), (44, .iconst 0, 1, []), (45, .iconst 2, 1, []), (46, .invokevirtual 270, 3, [1723, 1725, 56, 110, 1726]), (49, .ifCond .eq 5, 3, []), (52, .iconst 0, 1, []), (53, .ireturn, 1, []), (54, .aload_n 0, 1, []), (55, .iload_n 1, 1, []), (56, .iconst 0, 1, []), (57, .invokevirtual 356, 3, [1870, 1872, 79, 110, 1873]), (60, .ireturn, 1, [])]
def z_h259 : List (Nat × Nat × Nat × Nat × Nat × Nat × Nat) := []
def z_m260 : zMi := (RX12, yX12_quiet, cX12_quiet, 2, some .int, [])
def z_c260 : List zI := [(2, 0, 0, 0), (0, 0, 0, 0), (38, 9, 0, 0), (2, 0, 0, 0), (54, 188, 0, 9), (4, 1, 0, 0), (2, 0, 0, 0), (1, 1, 0, 0), (0, 0, 0, -1), (32, 24, 0, 0), (2, 0, 0, 0), (37, 9, 1, 0), (0, 0, 0, 8), (39, 0, 0, 0), (31, 24, 0, 0), (2, 0, 0, 0), (1, 1, 0, 0), (0, 0, 0, 0), (54, 190, 2, 9), (2, 0, 0, 0), (37, 9, 1, 0), (0, 0, 0, 8), (39, 0, 0, 0), (32, 26, 3, 0), (0, 0, 0, 1), (30, 27, 0, 0), (0, 0, 0, 0), (0, 0, 0, 1), (54, 176, 2, 9), (31, 32, 0, 0), (0, 0, 0, 0), (50, 0, 0, 0), (2, 0, 0, 0), (54, 182, 0, 9), (2, 0, 0, 0), (37, 9, 1, 0), (1, 1, 0, 0), (0, 0, 0, 0), (55, 189, 2, 0), (28, 0, 0, 0), (39, 0, 0, 0), (2, 0, 0, 0), (37, 9, 1, 0), (0, 0, 0, 8), (39, 0, 0, 0), (9, 0, 0, 0), (40, 0, 0, 0), (2, 0, 0, 0), (37, 9, 1, 0), (0, 0, 0, 8), (0, 0, 0, 0), (40, 0, 0, 0), (2, 0, 0, 0), (1, 1, 0, 0), (0, 0, 0, 0), (54, 190, 2, 9), (50, 0, 0, 0)]
def z_i260 : List zJ := [(0, .aload_n 0, 1, []), (1, .iconst 0, 1, []), (2, .putfield 3, 3, [1457]), (5, .aload_n 0, 1, []), (6, .invokevirtual 353, 3, [1866, 1868, 78, 110, 1869]), (9, .istore_n 1, 1, []), (10, .aload_n 0, 1, []), (11, .iload_n 1, 1, []), (12, .iconst (-1), 1, []), (13, .if_icmp .eq 29, 3, []), (16, .aload_n 0, 1, []), (17, .getfield 13, 3, [1458]), (20, .bipush 8, 2, []), (22, .iaload, 1, []), (23, .ifCond .eq 19, 3, []), (26, .aload_n 0, 1, []), (27, .iload_n 1, 1, []), (28, .iconst 0, 1, []), (29, .invokevirtual 69, 3, [1770, 1772, 62, 110, 1773]), (32, .aload_n 0, 1, []), (33, .getfield 13, 3, [1458]), (36, .bipush 8, 2, []), (38, .iaload, 1, []), (39, .if_icmp .ge 7, 3, []), (42, .iconst 1, 1, []), (43, .goto 4, 3, []), (46, .iconst 0, 1, []), (47, .iconst 1, 1, []), (48, .invokevirtual 270, 3, [1723, 1725, 56, 110, 1726]), (51, .ifCond .eq 5, 3, []), (54, .iconst 0, 1, []), (55, .ireturn, 1, []), (56, .aload_n 0, 1, []), (57, .invokevirtual 344, 3, [1841, 1843, 76, 110, 1844]), (60, .aload_n 0, 1, []), (61, .getfield 13, 3, [1458]), (64, .iload_n 1, 1, []), (65, .iconst 0, 1, []), (66, .invokestatic 65, 3, [1623, 1624, 110, 1625]), (69, .dup2, 1, []), (70, .iaload, 1, []), (71, .aload_n 0, 1, []), (72, .getfield 13, 3, [1458]), (75, .bipush 8, 2, []), (77, .iaload, 1, []), (78, .isub, 1, []), (79, .iastore, 1, []), (80, .aload_n 0, 1, []), (81, .getfield 13, 3, [1458]), (84, .bipush 8, 2, []), (86, .iconst 0, 1, []), (87, .iastore, 1, []), (88, .aload_n 0, 1, []), (89, .iload_n 1, 1, []), (90, .iconst 0, 1, []), (91, .invokevirtual 69, 3, [1770, 1772, 62, 110, 1773]), (94, .ireturn, 1, [])]
def z_h260 : List (Nat × Nat × Nat × Nat × Nat × Nat × Nat) := []
def z_m261 : zMi := (RX12, yX12_dust, cX12_dust, 2, some .int, [])
def z_c261 : List zI := [(2, 0, 0, 0), (0, 0, 0, 0), (38, 9, 0, 0), (2, 0, 0, 0), (54, 182, 0, 9), (2, 0, 0, 0), (37, 9, 1, 0), (0, 0, 0, 7), (39, 0, 0, 0), (4, 1, 0, 0), (2, 0, 0, 0), (37, 9, 1, 0), (0, 0, 0, 7), (0, 0, 0, 0), (40, 0, 0, 0), (1, 1, 0, 0), (50, 0, 0, 0)]
def z_i261 : List zJ := [(0, .aload_n 0, 1, []), (1, .iconst 0, 1, []), (2, .putfield 3, 3, [1457]), (5, .aload_n 0, 1, []), (6, .invokevirtual 344, 3, [1841, 1843, 76, 110, 1844]), (9, .aload_n 0, 1, []), (10, .getfield 13, 3, [1458]), (13, .bipush 7, 2, []), (15, .iaload, 1, []), (16, .istore_n 1, 1, []), (17, .aload_n 0, 1, []), (18, .getfield 13, 3, [1458]), (21, .bipush 7, 2, []), (23, .iconst 0, 1, []), (24, .iastore, 1, []), (25, .iload_n 1, 1, []), (26, .ireturn, 1, [])]
def z_h261 : List (Nat × Nat × Nat × Nat × Nat × Nat × Nat) := []
def z_m262 : zMi := (RX12, yX12_tells, cX12_tells, 5, none, [])
def z_c262 : List zI := [(0, 0, 0, 299), (4, 4, 0, 0), (1, 4, 0, 0), (0, 0, 0, 5), (32, 21, 2, 0), (2, 0, 0, 0), (37, 9, 1, 0), (0, 0, 0, 88), (1, 4, 0, 0), (8, 0, 0, 0), (2, 0, 0, 0), (37, 9, 1, 0), (0, 0, 0, 88), (1, 4, 0, 0), (8, 0, 0, 0), (0, 0, 0, 5), (9, 0, 0, 0), (39, 0, 0, 0), (40, 0, 0, 0), (7, 4, 0, -1), (30, 2, 0, 0), (2, 0, 0, 0), (37, 9, 1, 0), (0, 0, 0, 88), (2, 0, 0, 0), (37, 9, 1, 0), (0, 0, 0, 5), (39, 0, 0, 0), (40, 0, 0, 0), (2, 0, 0, 0), (37, 9, 1, 0), (0, 0, 0, 89), (2, 0, 0, 0), (37, 9, 1, 0), (0, 0, 0, 4), (39, 0, 0, 0), (40, 0, 0, 0), (2, 0, 0, 0), (37, 9, 1, 0), (0, 0, 0, 90), (1, 1, 0, 0), (40, 0, 0, 0), (2, 0, 0, 0), (37, 9, 1, 0), (0, 0, 0, 91), (1, 2, 0, 0), (40, 0, 0, 0), (2, 0, 0, 0), (37, 9, 1, 0), (0, 0, 0, 92), (1, 3, 0, 0), (40, 0, 0, 0), (2, 0, 0, 0), (37, 9, 1, 0), (0, 0, 0, 14), (0, 0, 0, 60), (2, 0, 0, 0), (37, 9, 1, 0), (0, 0, 0, 14), (39, 0, 0, 0), (0, 0, 0, 1), (8, 0, 0, 0), (67, 0, 0, 0), (40, 0, 0, 0), (53, 0, 0, 0)]
def z_i262 : List zJ := [(0, .sipush 299, 3, []), (3, .istore 4, 2, []), (5, .iload 4, 2, []), (7, .iconst 5, 1, []), (8, .if_icmp .lt 31, 3, []), (11, .aload_n 0, 1, []), (12, .getfield 13, 3, [1458]), (15, .bipush 88, 2, []), (17, .iload 4, 2, []), (19, .iadd, 1, []), (20, .aload_n 0, 1, []), (21, .getfield 13, 3, [1458]), (24, .bipush 88, 2, []), (26, .iload 4, 2, []), (28, .iadd, 1, []), (29, .iconst 5, 1, []), (30, .isub, 1, []), (31, .iaload, 1, []), (32, .iastore, 1, []), (33, .iinc 4 (-1), 3, []), (36, .goto (-31), 3, []), (39, .aload_n 0, 1, []), (40, .getfield 13, 3, [1458]), (43, .bipush 88, 2, []), (45, .aload_n 0, 1, []), (46, .getfield 13, 3, [1458]), (49, .iconst 5, 1, []), (50, .iaload, 1, []), (51, .iastore, 1, []), (52, .aload_n 0, 1, []), (53, .getfield 13, 3, [1458]), (56, .bipush 89, 2, []), (58, .aload_n 0, 1, []), (59, .getfield 13, 3, [1458]), (62, .iconst 4, 1, []), (63, .iaload, 1, []), (64, .iastore, 1, []), (65, .aload_n 0, 1, []), (66, .getfield 13, 3, [1458]), (69, .bipush 90, 2, []), (71, .iload_n 1, 1, []), (72, .iastore, 1, []), (73, .aload_n 0, 1, []), (74, .getfield 13, 3, [1458]), (77, .bipush 91, 2, []), (79, .iload_n 2, 1, []), (80, .iastore, 1, []), (81, .aload_n 0, 1, []), (82, .getfield 13, 3, [1458]), (85, .bipush 92, 2, []), (87, .iload_n 3, 1, []), (88, .iastore, 1, []), (89, .aload_n 0, 1, []), (90, .getfield 13, 3, [1458]), (93, .bipush 14, 2, []), (95, .bipush 60, 2, []), (97, .aload_n 0, 1, []), (98, .getfield 13, 3, [1458]), (101, .bipush 14, 2, []), (103, .iaload, 1, []), (104, .iconst 1, 1, []), (105, .iadd, 1, []), (106, .invokestatic 347, 3, [1845]), (109, .iastore, 1, []), (110, .return_, 1, [])]
def z_h262 : List (Nat × Nat × Nat × Nat × Nat × Nat × Nat) := []
def z_m263 : zMi := (RX12, yX12_visits, cX12_visits, 2, none, [])
def z_c263 : List zI := [(2, 0, 0, 0), (0, 0, 0, 100), (54, 198, 1, 9), (2, 0, 0, 0), (37, 9, 1, 0), (0, 0, 0, 13), (39, 0, 0, 0), (32, 11, 3, 0), (1, 1, 0, 0), (0, 0, 0, -1), (32, 12, 1, 0), (53, 0, 0, 0), (2, 0, 0, 0), (37, 9, 1, 0), (0, 0, 0, 8), (0, 0, 0, 9), (2, 0, 0, 0), (37, 9, 1, 0), (0, 0, 0, 8), (39, 0, 0, 0), (0, 0, 0, 1), (8, 0, 0, 0), (67, 0, 0, 0), (40, 0, 0, 0), (2, 0, 0, 0), (37, 9, 1, 0), (0, 0, 0, 9), (1, 1, 0, 0), (40, 0, 0, 0), (2, 0, 0, 0), (1, 1, 0, 0), (0, 0, 0, 0), (2, 0, 0, 0), (37, 9, 1, 0), (0, 0, 0, 8), (39, 0, 0, 0), (54, 262, 3, 9), (53, 0, 0, 0)]
def z_i263 : List zJ := [(0, .aload_n 0, 1, []), (1, .bipush 100, 2, []), (3, .invokevirtual 359, 3, [1902, 1904, 83, 110, 1905]), (6, .aload_n 0, 1, []), (7, .getfield 13, 3, [1458]), (10, .bipush 13, 2, []), (12, .iaload, 1, []), (13, .if_icmp .ge 8, 3, []), (16, .iload_n 1, 1, []), (17, .iconst (-1), 1, []), (18, .if_icmp .ne 4, 3, []), (21, .return_, 1, []), (22, .aload_n 0, 1, []), (23, .getfield 13, 3, [1458]), (26, .bipush 8, 2, []), (28, .bipush 9, 2, []), (30, .aload_n 0, 1, []), (31, .getfield 13, 3, [1458]), (34, .bipush 8, 2, []), (36, .iaload, 1, []), (37, .iconst 1, 1, []), (38, .iadd, 1, []), (39, .invokestatic 347, 3, [1845]), (42, .iastore, 1, []), (43, .aload_n 0, 1, []), (44, .getfield 13, 3, [1458]), (47, .bipush 9, 2, []), (49, .iload_n 1, 1, []), (50, .iastore, 1, []), (51, .aload_n 0, 1, []), (52, .iload_n 1, 1, []), (53, .iconst 0, 1, []), (54, .aload_n 0, 1, []), (55, .getfield 13, 3, [1458]), (58, .bipush 8, 2, []), (60, .iaload, 1, []), (61, .invokevirtual 362, 3, [1907, 1909, 84, 110, 1910]), (64, .return_, 1, [])]
def z_h263 : List (Nat × Nat × Nat × Nat × Nat × Nat × Nat) := []
def z_m264 : zMi := (RX12, yX12_goesOut, cX12_goesOut, 5, some .int, [])
def z_c264 : List zI := [(0, 0, 0, 0), (4, 2, 0, 0), (0, 0, 0, 0), (4, 3, 0, 0), (1, 3, 0, 0), (2, 0, 0, 0), (54, 185, 0, 9), (32, 52, 3, 0), (2, 0, 0, 0), (1, 3, 0, 0), (0, 0, 0, 0), (54, 193, 2, 9), (1, 1, 0, 0), (32, 50, 1, 0), (2, 0, 0, 0), (1, 3, 0, 0), (54, 194, 1, 9), (31, 19, 1, 0), (30, 50, 0, 0), (2, 0, 0, 0), (1, 3, 0, 0), (54, 241, 1, 9), (4, 4, 0, 0), (2, 0, 0, 0), (37, 9, 1, 0), (1, 1, 0, 0), (0, 0, 0, 0), (55, 189, 2, 0), (0, 0, 0, 0), (2, 0, 0, 0), (1, 1, 0, 0), (0, 0, 0, 0), (54, 190, 2, 9), (1, 4, 0, 0), (9, 0, 0, 0), (68, 0, 0, 0), (40, 0, 0, 0), (2, 0, 0, 0), (37, 9, 1, 0), (1, 3, 0, 0), (0, 0, 0, 2), (55, 192, 2, 0), (0, 0, 0, 0), (40, 0, 0, 0), (2, 0, 0, 0), (1, 1, 0, 0), (0, 0, 0, 1), (1, 4, 0, 0), (54, 262, 3, 9), (7, 2, 0, 1), (7, 3, 0, 1), (30, 4, 0, 0), (1, 2, 0, 0), (50, 0, 0, 0)]
def z_i264 : List zJ := [(0, .iconst 0, 1, []), (1, .istore_n 2, 1, []), (2, .iconst 0, 1, []), (3, .istore_n 3, 1, []), (4, .iload_n 3, 1, []), (5, .aload_n 0, 1, []), (6, .invokevirtual 90, 3, [1655, 1657, 44, 110, 1658]), (9, .if_icmp .ge 82, 3, []), (12, .aload_n 0, 1, []), (13, .iload_n 3, 1, []), (14, .iconst 0, 1, []), (15, .invokevirtual 79, 3, [1806, 1808, 70, 110, 1809]), (18, .iload_n 1, 1, []), (19, .if_icmp .ne 66, 3, []), (22, .aload_n 0, 1, []), (23, .iload_n 3, 1, []), (24, .invokevirtual 273, 3, [1802, 1804, 69, 110, 1805]), (27, .ifCond .ne 6, 3, []), (30, .goto 55, 3, []), (33, .aload_n 0, 1, []), (34, .iload_n 3, 1, []), (35, .invokevirtual 341, 3, [1833, 1835, 75, 110, 1836]), (38, .istore 4, 2, []), (40, .aload_n 0, 1, []), (41, .getfield 13, 3, [1458]), (44, .iload_n 1, 1, []), (45, .iconst 0, 1, []), (46, .invokestatic 65, 3, [1623, 1624, 110, 1625]), (49, .iconst 0, 1, []), (50, .aload_n 0, 1, []), (51, .iload_n 1, 1, []), (52, .iconst 0, 1, []), (53, .invokevirtual 69, 3, [1770, 1772, 62, 110, 1773]), (56, .iload 4, 2, []), (58, .isub, 1, []), (59, .invokestatic 309, 3, [1765]), (62, .iastore, 1, []), (63, .aload_n 0, 1, []), (64, .getfield 13, 3, [1458]), (67, .iload_n 3, 1, []), (68, .iconst 2, 1, []), (69, .invokestatic 76, 3, [1660, 1661, 110, 1662]), (72, .iconst 0, 1, []), (73, .iastore, 1, []), (74, .aload_n 0, 1, []), (75, .iload_n 1, 1, []), (76, .iconst 1, 1, []), (77, .iload 4, 2, []), (79, .invokevirtual 362, 3, [1907, 1909, 84, 110, 1910]), (82, .iinc 2 1, 3, []), (85, .iinc 3 1, 3, []), (88, .goto (-84), 3, []), (91, .iload_n 2, 1, []), (92, .ireturn, 1, [])]
def z_h264 : List (Nat × Nat × Nat × Nat × Nat × Nat × Nat) := []
def z_m265 : zMi := (RX12, yX12_oneHour, cX12_oneHour, 5, some .int, [])
def z_c265 : List zI := [(2, 0, 0, 0), (54, 188, 0, 9), (4, 2, 0, 0), (1, 2, 0, 0), (0, 0, 0, -1), (32, 46, 0, 0), (2, 0, 0, 0), (1, 2, 0, 0), (2, 0, 0, 0), (37, 9, 1, 0), (0, 0, 0, 4), (39, 0, 0, 0), (54, 239, 2, 9), (4, 3, 0, 0), (2, 0, 0, 0), (1, 2, 0, 0), (2, 0, 0, 0), (37, 9, 1, 0), (0, 0, 0, 4), (39, 0, 0, 0), (54, 240, 2, 9), (4, 4, 0, 0), (2, 0, 0, 0), (37, 9, 1, 0), (0, 0, 0, 6), (0, 0, 0, 99), (2, 0, 0, 0), (37, 9, 1, 0), (0, 0, 0, 6), (39, 0, 0, 0), (1, 3, 0, 0), (8, 0, 0, 0), (67, 0, 0, 0), (40, 0, 0, 0), (2, 0, 0, 0), (37, 9, 1, 0), (0, 0, 0, 7), (0, 0, 0, 99), (2, 0, 0, 0), (37, 9, 1, 0), (0, 0, 0, 7), (39, 0, 0, 0), (1, 4, 0, 0), (8, 0, 0, 0), (67, 0, 0, 0), (40, 0, 0, 0), (2, 0, 0, 0), (37, 9, 1, 0), (0, 0, 0, 6), (0, 0, 0, 0), (2, 0, 0, 0), (37, 9, 1, 0), (0, 0, 0, 6), (39, 0, 0, 0), (2, 0, 0, 0), (37, 9, 1, 0), (0, 0, 0, 10), (39, 0, 0, 0), (9, 0, 0, 0), (68, 0, 0, 0), (40, 0, 0, 0), (1, 1, 0, 0), (31, 66, 1, 0), (2, 0, 0, 0), (1, 2, 0, 0), (54, 263, 1, 9), (2, 0, 0, 0), (37, 9, 1, 0), (0, 0, 0, 4), (2, 0, 0, 0), (37, 9, 1, 0), (0, 0, 0, 4), (39, 0, 0, 0), (55, 187, 1, 0), (40, 0, 0, 0), (2, 0, 0, 0), (37, 9, 1, 0), (0, 0, 0, 4), (39, 0, 0, 0), (31, 92, 1, 0), (2, 0, 0, 0), (37, 9, 1, 0), (0, 0, 0, 5), (0, 0, 0, 9999), (2, 0, 0, 0), (37, 9, 1, 0), (0, 0, 0, 5), (39, 0, 0, 0), (0, 0, 0, 1), (8, 0, 0, 0), (67, 0, 0, 0), (40, 0, 0, 0), (1, 2, 0, 0), (0, 0, 0, -1), (32, 99, 0, 0), (2, 0, 0, 0), (54, 188, 0, 9), (1, 2, 0, 0), (32, 101, 1, 0), (0, 0, 0, 0), (30, 104, 0, 0), (2, 0, 0, 0), (1, 2, 0, 0), (54, 264, 1, 9), (50, 0, 0, 0)]
def z_i265 : List zJ := [(0, .aload_n 0, 1, []), (1, .invokevirtual 353, 3, [1866, 1868, 78, 110, 1869]), (4, .istore_n 2, 1, []), (5, .iload_n 2, 1, []), (6, .iconst (-1), 1, []), (7, .if_icmp .eq 71, 3, []), (10, .aload_n 0, 1, []), (11, .iload_n 2, 1, []), (12, .aload_n 0, 1, []), (13, .getfield 13, 3, [1458]), (16, .iconst 4, 1, []), (17, .iaload, 1, []), (18, .invokevirtual 332, 3, [1782, 1784, 64, 110, 1785]), (21, .istore_n 3, 1, []), (22, .aload_n 0, 1, []), (23, .iload_n 2, 1, []), (24, .aload_n 0, 1, []), (25, .getfield 13, 3, [1458]), (28, .iconst 4, 1, []), (29, .iaload, 1, []), (30, .invokevirtual 335, 3, [1821, 1823, 73, 110, 1824]), (33, .istore 4, 2, []), (35, .aload_n 0, 1, []), (36, .getfield 13, 3, [1458]), (39, .bipush 6, 2, []), (41, .bipush 99, 2, []), (43, .aload_n 0, 1, []), (44, .getfield 13, 3, [1458]), (47, .bipush 6, 2, []), (49, .iaload, 1, []), (50, .iload_n 3, 1, []), (51, .iadd, 1, []), (52, .invokestatic 347, 3, [1845]), (55, .iastore, 1, []), (56, .aload_n 0, 1, []), (57, .getfield 13, 3, [1458]), (60, .bipush 7, 2, []), (62, .bipush 99, 2, []), (64, .aload_n 0, 1, []), (65, .getfield 13, 3, [1458]), (68, .bipush 7, 2, []), (70, .iaload, 1, []), (71, .iload 4, 2, []), (73, .iadd, 1, []), (74, .invokestatic 347, 3, [1845]), (77, .iastore, 1, []), (78, .aload_n 0, 1, []), (79, .getfield 13, 3, [1458]), (82, .bipush 6, 2, []), (84, .iconst 0, 1, []), (85, .aload_n 0, 1, []), (86, .getfield 13, 3, [1458]), (89, .bipush 6, 2, []), (91, .iaload, 1, []), (92, .aload_n 0, 1, []), (93, .getfield 13, 3, [1458]), (96, .bipush 10, 2, []), (98, .iaload, 1, []), (99, .isub, 1, []), (100, .invokestatic 309, 3, [1765]), (103, .iastore, 1, []), (104, .iload_n 1, 1, []), (105, .ifCond .ne 8, 3, []), (108, .aload_n 0, 1, []), (109, .iload_n 2, 1, []), (110, .invokevirtual 366, 3, [1898, 1900, 82, 110, 1901]), (113, .aload_n 0, 1, []), (114, .getfield 13, 3, [1458]), (117, .iconst 4, 1, []), (118, .aload_n 0, 1, []), (119, .getfield 13, 3, [1458]), (122, .iconst 4, 1, []), (123, .iaload, 1, []), (124, .invokestatic 137, 3, [1619, 1620, 110, 1621]), (127, .iastore, 1, []), (128, .aload_n 0, 1, []), (129, .getfield 13, 3, [1458]), (132, .iconst 4, 1, []), (133, .iaload, 1, []), (134, .ifCond .ne 23, 3, []), (137, .aload_n 0, 1, []), (138, .getfield 13, 3, [1458]), (141, .iconst 5, 1, []), (142, .sipush 9999, 3, []), (145, .aload_n 0, 1, []), (146, .getfield 13, 3, [1458]), (149, .iconst 5, 1, []), (150, .iaload, 1, []), (151, .iconst 1, 1, []), (152, .iadd, 1, []), (153, .invokestatic 347, 3, [1845]), (156, .iastore, 1, []), (157, .iload_n 2, 1, []), (158, .iconst (-1), 1, []), (159, .if_icmp .eq 11, 3, []), (162, .aload_n 0, 1, []), (163, .invokevirtual 353, 3, [1866, 1868, 78, 110, 1869]), (166, .iload_n 2, 1, []), (167, .if_icmp .ne 7, 3, []), (170, .iconst 0, 1, []), (171, .goto 8, 3, []), (174, .aload_n 0, 1, []), (175, .iload_n 2, 1, []), (176, .invokevirtual 370, 3, [1911, 1913, 85, 110, 1914]), (179, .ireturn, 1, [])]
def z_h265 : List (Nat × Nat × Nat × Nat × Nat × Nat × Nat) := []
def z_m266 : zMi := (RX12, yX12_keepsAll, cX12_keepsAll, 2, none, [])
def z_c266 : List zI := [(0, 0, 0, 0), (4, 1, 0, 0), (1, 1, 0, 0), (0, 0, 0, 388), (32, 15, 3, 0), (2, 0, 0, 0), (37, 9, 4, 0), (1, 1, 0, 0), (2, 0, 0, 0), (37, 9, 1, 0), (1, 1, 0, 0), (39, 0, 0, 0), (40, 0, 0, 0), (7, 1, 0, 1), (30, 2, 0, 0), (53, 0, 0, 0)]
def z_i266 : List zJ := [(0, .iconst 0, 1, []), (1, .istore_n 1, 1, []), (2, .iload_n 1, 1, []), (3, .sipush 388, 3, []), (6, .if_icmp .ge 21, 3, []), (9, .aload_n 0, 1, []), (10, .getfield 23, 3, [1461]), (13, .iload_n 1, 1, []), (14, .aload_n 0, 1, []), (15, .getfield 13, 3, [1458]), (18, .iload_n 1, 1, []), (19, .iaload, 1, []), (20, .iastore, 1, []), (21, .iinc 1 1, 3, []), (24, .goto (-22), 3, []), (27, .return_, 1, [])]
def z_h266 : List (Nat × Nat × Nat × Nat × Nat × Nat × Nat) := []
def z_m267 : zMi := (RX12, yX12_bringsBack, cX12_bringsBack, 2, none, [])
def z_c267 : List zI := [(0, 0, 0, 0), (4, 1, 0, 0), (1, 1, 0, 0), (0, 0, 0, 388), (32, 15, 3, 0), (2, 0, 0, 0), (37, 9, 1, 0), (1, 1, 0, 0), (2, 0, 0, 0), (37, 9, 4, 0), (1, 1, 0, 0), (39, 0, 0, 0), (40, 0, 0, 0), (7, 1, 0, 1), (30, 2, 0, 0), (53, 0, 0, 0)]
def z_i267 : List zJ := [(0, .iconst 0, 1, []), (1, .istore_n 1, 1, []), (2, .iload_n 1, 1, []), (3, .sipush 388, 3, []), (6, .if_icmp .ge 21, 3, []), (9, .aload_n 0, 1, []), (10, .getfield 13, 3, [1458]), (13, .iload_n 1, 1, []), (14, .aload_n 0, 1, []), (15, .getfield 23, 3, [1461]), (18, .iload_n 1, 1, []), (19, .iaload, 1, []), (20, .iastore, 1, []), (21, .iinc 1 1, 3, []), (24, .goto (-22), 3, []), (27, .return_, 1, [])]
def z_h267 : List (Nat × Nat × Nat × Nat × Nat × Nat × Nat) := []
def z_m268 : zMi := (RX12, yX12_goesOn, cX12_goesOn, 5, some .int, [])
def z_c268 : List zI := [(0, 0, 0, 0), (4, 3, 0, 0), (0, 0, 0, 0), (4, 4, 0, 0), (1, 4, 0, 0), (1, 1, 0, 0), (32, 15, 3, 0), (1, 3, 0, 0), (2, 0, 0, 0), (1, 2, 0, 0), (54, 265, 1, 9), (8, 0, 0, 0), (4, 3, 0, 0), (7, 4, 0, 1), (30, 4, 0, 0), (1, 3, 0, 0), (50, 0, 0, 0)]
def z_i268 : List zJ := [(0, .iconst 0, 1, []), (1, .istore_n 3, 1, []), (2, .iconst 0, 1, []), (3, .istore 4, 2, []), (5, .iload 4, 2, []), (7, .iload_n 1, 1, []), (8, .if_icmp .ge 17, 3, []), (11, .iload_n 3, 1, []), (12, .aload_n 0, 1, []), (13, .iload_n 2, 1, []), (14, .invokevirtual 373, 3, [1894, 1896, 81, 110, 1897]), (17, .iadd, 1, []), (18, .istore_n 3, 1, []), (19, .iinc 4 1, 3, []), (22, .goto (-17), 3, []), (25, .iload_n 3, 1, []), (26, .ireturn, 1, [])]
def z_h268 : List (Nat × Nat × Nat × Nat × Nat × Nat × Nat) := []
def z_m269 : zMi := (RX12, yX12_hours, cX12_hours, 2, some .int, [])
def z_c269 : List zI := [(2, 0, 0, 0), (0, 0, 0, 0), (38, 9, 0, 0), (2, 0, 0, 0), (1, 1, 0, 0), (0, 0, 0, 1), (0, 0, 0, 100), (55, 177, 3, 0), (31, 11, 1, 0), (0, 0, 0, 1), (30, 12, 0, 0), (0, 0, 0, 0), (0, 0, 0, 1), (54, 176, 2, 9), (31, 17, 0, 0), (0, 0, 0, 0), (50, 0, 0, 0), (2, 0, 0, 0), (54, 182, 0, 9), (2, 0, 0, 0), (1, 1, 0, 0), (0, 0, 0, 0), (54, 268, 2, 9), (50, 0, 0, 0)]
def z_i269 : List zJ := [(0, .aload_n 0, 1, []), (1, .iconst 0, 1, []), (2, .putfield 3, 3, [1457]), (5, .aload_n 0, 1, []), (6, .iload_n 1, 1, []), (7, .iconst 1, 1, []), (8, .bipush 100, 2, []), (10, .invokestatic 86, 3, [1738, 1739, 110, 1740]), (13, .ifCond .ne 7, 3, []), (16, .iconst 1, 1, []), (17, .goto 4, 3, []), (20, .iconst 0, 1, []), (21, .iconst 1, 1, []), (22, .invokevirtual 270, 3, [1723, 1725, 56, 110, 1726]), (25, .ifCond .eq 5, 3, []), (28, .iconst 0, 1, []), (29, .ireturn, 1, []), (30, .aload_n 0, 1, []), (31, .invokevirtual 344, 3, [1841, 1843, 76, 110, 1844]), (34, .aload_n 0, 1, []), (35, .iload_n 1, 1, []), (36, .iconst 0, 1, []), (37, .invokevirtual 376, 3, [1890, 1892, 80, 110, 1893]), (40, .ireturn, 1, [])]
def z_h269 : List (Nat × Nat × Nat × Nat × Nat × Nat × Nat) := []
def z_m270 : zMi := (RX12, yX12_ahead, cX12_ahead, 4, some .int, [])
def z_c270 : List zI := [(2, 0, 0, 0), (0, 0, 0, 0), (38, 9, 0, 0), (2, 0, 0, 0), (1, 1, 0, 0), (0, 0, 0, 0), (0, 0, 0, 200), (55, 177, 3, 0), (31, 11, 1, 0), (0, 0, 0, 1), (30, 12, 0, 0), (0, 0, 0, 0), (0, 0, 0, 1), (54, 176, 2, 9), (31, 27, 1, 0), (2, 0, 0, 0), (1, 2, 0, 0), (0, 0, 0, 0), (0, 0, 0, 2), (55, 177, 3, 0), (31, 23, 1, 0), (0, 0, 0, 1), (30, 24, 0, 0), (0, 0, 0, 0), (0, 0, 0, 2), (54, 176, 2, 9), (31, 29, 0, 0), (0, 0, 0, 0), (50, 0, 0, 0), (2, 0, 0, 0), (54, 266, 0, 9), (2, 0, 0, 0), (1, 1, 0, 0), (0, 0, 0, 1), (54, 268, 2, 9), (29, 0, 0, 0), (1, 2, 0, 0), (31, 43, 1, 0), (2, 0, 0, 0), (37, 9, 1, 0), (0, 0, 0, 6), (39, 0, 0, 0), (30, 53, 0, 0), (1, 2, 0, 0), (0, 0, 0, 1), (32, 51, 1, 0), (2, 0, 0, 0), (37, 9, 1, 0), (0, 0, 0, 7), (39, 0, 0, 0), (30, 53, 0, 0), (2, 0, 0, 0), (54, 188, 0, 9), (4, 3, 0, 0), (2, 0, 0, 0), (54, 267, 0, 9), (1, 3, 0, 0), (50, 0, 0, 0)]
def z_i270 : List zJ := [(0, .aload_n 0, 1, []), (1, .iconst 0, 1, []), (2, .putfield 3, 3, [1457]), (5, .aload_n 0, 1, []), (6, .iload_n 1, 1, []), (7, .iconst 0, 1, []), (8, .sipush 200, 3, []), (11, .invokestatic 86, 3, [1738, 1739, 110, 1740]), (14, .ifCond .ne 7, 3, []), (17, .iconst 1, 1, []), (18, .goto 4, 3, []), (21, .iconst 0, 1, []), (22, .iconst 1, 1, []), (23, .invokevirtual 270, 3, [1723, 1725, 56, 110, 1726]), (26, .ifCond .ne 25, 3, []), (29, .aload_n 0, 1, []), (30, .iload_n 2, 1, []), (31, .iconst 0, 1, []), (32, .iconst 2, 1, []), (33, .invokestatic 86, 3, [1738, 1739, 110, 1740]), (36, .ifCond .ne 7, 3, []), (39, .iconst 1, 1, []), (40, .goto 4, 3, []), (43, .iconst 0, 1, []), (44, .iconst 2, 1, []), (45, .invokevirtual 270, 3, [1723, 1725, 56, 110, 1726]), (48, .ifCond .eq 5, 3, []), (51, .iconst 0, 1, []), (52, .ireturn, 1, []), (53, .aload_n 0, 1, []), (54, .invokevirtual 380, 3, [1919, 1921, 86, 110, 1922]), (57, .aload_n 0, 1, []), (58, .iload_n 1, 1, []), (59, .iconst 1, 1, []), (60, .invokevirtual 376, 3, [1890, 1892, 80, 110, 1893]), (63, .pop, 1, []), (64, .iload_n 2, 1, []), (65, .ifCond .ne 13, 3, []), (68, .aload_n 0, 1, []), (69, .getfield 13, 3, [1458]), (72, .bipush 6, 2, []), (74, .iaload, 1, []), (75, .goto 22, 3, []), (78, .iload_n 2, 1, []), (79, .iconst 1, 1, []), (80, .if_icmp .ne 13, 3, []), (83, .aload_n 0, 1, []), (84, .getfield 13, 3, [1458]), (87, .bipush 7, 2, []), (89, .iaload, 1, []), (90, .goto 7, 3, []), (93, .aload_n 0, 1, []), (94, .invokevirtual 353, 3, [1866, 1868, 78, 110, 1869]), (97, .istore_n 3, 1, []), (98, .aload_n 0, 1, []), (99, .invokevirtual 383, 3, [1923, 1925, 87, 110, 1926]), (102, .iload_n 3, 1, []), (103, .ireturn, 1, [])]
def z_h270 : List (Nat × Nat × Nat × Nat × Nat × Nat × Nat) := []
def z_m271 : zMi := (RX12, yX12_dusty, cX12_dusty, 4, some .int, [])
def z_c271 : List zI := [(2, 0, 0, 0), (0, 0, 0, 0), (38, 9, 0, 0), (2, 0, 0, 0), (1, 1, 0, 0), (0, 0, 0, 1), (0, 0, 0, 99), (55, 177, 3, 0), (31, 11, 1, 0), (0, 0, 0, 1), (30, 12, 0, 0), (0, 0, 0, 0), (0, 0, 0, 1), (54, 176, 2, 9), (31, 17, 0, 0), (0, 0, 0, 0), (50, 0, 0, 0), (0, 0, 0, -1), (4, 2, 0, 0), (2, 0, 0, 0), (54, 266, 0, 9), (0, 0, 0, 0), (4, 3, 0, 0), (1, 3, 0, 0), (0, 0, 0, 200), (32, 45, 4, 0), (1, 2, 0, 0), (0, 0, 0, -1), (32, 45, 1, 0), (2, 0, 0, 0), (37, 9, 1, 0), (0, 0, 0, 7), (39, 0, 0, 0), (1, 1, 0, 0), (32, 37, 2, 0), (1, 3, 0, 0), (30, 38, 0, 0), (0, 0, 0, -1), (4, 2, 0, 0), (2, 0, 0, 0), (0, 0, 0, 1), (54, 265, 1, 9), (29, 0, 0, 0), (7, 3, 0, 1), (30, 23, 0, 0), (2, 0, 0, 0), (54, 267, 0, 9), (1, 2, 0, 0), (50, 0, 0, 0)]
def z_i271 : List zJ := [(0, .aload_n 0, 1, []), (1, .iconst 0, 1, []), (2, .putfield 3, 3, [1457]), (5, .aload_n 0, 1, []), (6, .iload_n 1, 1, []), (7, .iconst 1, 1, []), (8, .bipush 99, 2, []), (10, .invokestatic 86, 3, [1738, 1739, 110, 1740]), (13, .ifCond .ne 7, 3, []), (16, .iconst 1, 1, []), (17, .goto 4, 3, []), (20, .iconst 0, 1, []), (21, .iconst 1, 1, []), (22, .invokevirtual 270, 3, [1723, 1725, 56, 110, 1726]), (25, .ifCond .eq 5, 3, []), (28, .iconst 0, 1, []), (29, .ireturn, 1, []), (30, .iconst (-1), 1, []), (31, .istore_n 2, 1, []), (32, .aload_n 0, 1, []), (33, .invokevirtual 380, 3, [1919, 1921, 86, 110, 1922]), (36, .iconst 0, 1, []), (37, .istore_n 3, 1, []), (38, .iload_n 3, 1, []), (39, .sipush 200, 3, []), (42, .if_icmp .gt 37, 3, []), (45, .iload_n 2, 1, []), (46, .iconst (-1), 1, []), (47, .if_icmp .ne 32, 3, []), (50, .aload_n 0, 1, []), (51, .getfield 13, 3, [1458]), (54, .bipush 7, 2, []), (56, .iaload, 1, []), (57, .iload_n 1, 1, []), (58, .if_icmp .lt 7, 3, []), (61, .iload_n 3, 1, []), (62, .goto 4, 3, []), (65, .iconst (-1), 1, []), (66, .istore_n 2, 1, []), (67, .aload_n 0, 1, []), (68, .iconst 1, 1, []), (69, .invokevirtual 373, 3, [1894, 1896, 81, 110, 1897]), (72, .pop, 1, []), (73, .iinc 3 1, 3, []), (76, .goto (-38), 3, []), (79, .aload_n 0, 1, []), (80, .invokevirtual 383, 3, [1923, 1925, 87, 110, 1926]), (83, .iload_n 2, 1, []), (84, .ireturn, 1, [])]
def z_h271 : List (Nat × Nat × Nat × Nat × Nat × Nat × Nat) := []
def z_m272 : zMi := (RX12, yX12_warmest, cX12_warmest, 5, some .int, [])
def z_c272 : List zI := [(2, 0, 0, 0), (0, 0, 0, 0), (38, 9, 0, 0), (2, 0, 0, 0), (1, 1, 0, 0), (0, 0, 0, 1), (0, 0, 0, 200), (55, 177, 3, 0), (31, 11, 1, 0), (0, 0, 0, 1), (30, 12, 0, 0), (0, 0, 0, 0), (0, 0, 0, 1), (54, 176, 2, 9), (31, 17, 0, 0), (0, 0, 0, 0), (50, 0, 0, 0), (0, 0, 0, 0), (4, 2, 0, 0), (0, 0, 0, -1), (4, 3, 0, 0), (2, 0, 0, 0), (54, 266, 0, 9), (0, 0, 0, 0), (4, 4, 0, 0), (1, 4, 0, 0), (1, 1, 0, 0), (32, 51, 4, 0), (2, 0, 0, 0), (37, 9, 1, 0), (0, 0, 0, 6), (39, 0, 0, 0), (1, 3, 0, 0), (32, 36, 5, 0), (1, 4, 0, 0), (30, 37, 0, 0), (1, 2, 0, 0), (4, 2, 0, 0), (1, 3, 0, 0), (2, 0, 0, 0), (37, 9, 1, 0), (0, 0, 0, 6), (39, 0, 0, 0), (68, 0, 0, 0), (4, 3, 0, 0), (2, 0, 0, 0), (0, 0, 0, 1), (54, 265, 1, 9), (29, 0, 0, 0), (7, 4, 0, 1), (30, 25, 0, 0), (2, 0, 0, 0), (54, 267, 0, 9), (1, 2, 0, 0), (50, 0, 0, 0)]
def z_i272 : List zJ := [(0, .aload_n 0, 1, []), (1, .iconst 0, 1, []), (2, .putfield 3, 3, [1457]), (5, .aload_n 0, 1, []), (6, .iload_n 1, 1, []), (7, .iconst 1, 1, []), (8, .sipush 200, 3, []), (11, .invokestatic 86, 3, [1738, 1739, 110, 1740]), (14, .ifCond .ne 7, 3, []), (17, .iconst 1, 1, []), (18, .goto 4, 3, []), (21, .iconst 0, 1, []), (22, .iconst 1, 1, []), (23, .invokevirtual 270, 3, [1723, 1725, 56, 110, 1726]), (26, .ifCond .eq 5, 3, []), (29, .iconst 0, 1, []), (30, .ireturn, 1, []), (31, .iconst 0, 1, []), (32, .istore_n 2, 1, []), (33, .iconst (-1), 1, []), (34, .istore_n 3, 1, []), (35, .aload_n 0, 1, []), (36, .invokevirtual 380, 3, [1919, 1921, 86, 110, 1922]), (39, .iconst 0, 1, []), (40, .istore 4, 2, []), (42, .iload 4, 2, []), (44, .iload_n 1, 1, []), (45, .if_icmp .gt 45, 3, []), (48, .aload_n 0, 1, []), (49, .getfield 13, 3, [1458]), (52, .bipush 6, 2, []), (54, .iaload, 1, []), (55, .iload_n 3, 1, []), (56, .if_icmp .le 8, 3, []), (59, .iload 4, 2, []), (61, .goto 4, 3, []), (64, .iload_n 2, 1, []), (65, .istore_n 2, 1, []), (66, .iload_n 3, 1, []), (67, .aload_n 0, 1, []), (68, .getfield 13, 3, [1458]), (71, .bipush 6, 2, []), (73, .iaload, 1, []), (74, .invokestatic 309, 3, [1765]), (77, .istore_n 3, 1, []), (78, .aload_n 0, 1, []), (79, .iconst 1, 1, []), (80, .invokevirtual 373, 3, [1894, 1896, 81, 110, 1897]), (83, .pop, 1, []), (84, .iinc 4 1, 3, []), (87, .goto (-45), 3, []), (90, .aload_n 0, 1, []), (91, .invokevirtual 383, 3, [1923, 1925, 87, 110, 1926]), (94, .iload_n 2, 1, []), (95, .ireturn, 1, [])]
def z_h272 : List (Nat × Nat × Nat × Nat × Nat × Nat × Nat) := []
def z_m273 : zMi := (RX12, yX12_ruin, cX12_ruin, 4, some .int, [])
def z_c273 : List zI := [(2, 0, 0, 0), (0, 0, 0, 0), (38, 9, 0, 0), (2, 0, 0, 0), (2, 0, 0, 0), (1, 1, 0, 0), (54, 195, 1, 9), (0, 0, 0, 1), (54, 176, 2, 9), (31, 12, 0, 0), (0, 0, 0, 0), (50, 0, 0, 0), (0, 0, 0, -1), (4, 2, 0, 0), (2, 0, 0, 0), (54, 266, 0, 9), (0, 0, 0, 0), (4, 3, 0, 0), (1, 3, 0, 0), (0, 0, 0, 200), (32, 39, 4, 0), (1, 2, 0, 0), (0, 0, 0, -1), (32, 39, 1, 0), (2, 0, 0, 0), (1, 1, 0, 0), (0, 0, 0, 0), (54, 190, 2, 9), (31, 31, 1, 0), (1, 3, 0, 0), (30, 32, 0, 0), (0, 0, 0, -1), (4, 2, 0, 0), (2, 0, 0, 0), (0, 0, 0, 1), (54, 265, 1, 9), (29, 0, 0, 0), (7, 3, 0, 1), (30, 18, 0, 0), (2, 0, 0, 0), (54, 267, 0, 9), (1, 2, 0, 0), (50, 0, 0, 0)]
def z_i273 : List zJ := [(0, .aload_n 0, 1, []), (1, .iconst 0, 1, []), (2, .putfield 3, 3, [1457]), (5, .aload_n 0, 1, []), (6, .aload_n 0, 1, []), (7, .iload_n 1, 1, []), (8, .invokevirtual 317, 3, [1745, 1747, 57, 110, 1748]), (11, .iconst 1, 1, []), (12, .invokevirtual 270, 3, [1723, 1725, 56, 110, 1726]), (15, .ifCond .eq 5, 3, []), (18, .iconst 0, 1, []), (19, .ireturn, 1, []), (20, .iconst (-1), 1, []), (21, .istore_n 2, 1, []), (22, .aload_n 0, 1, []), (23, .invokevirtual 380, 3, [1919, 1921, 86, 110, 1922]), (26, .iconst 0, 1, []), (27, .istore_n 3, 1, []), (28, .iload_n 3, 1, []), (29, .sipush 200, 3, []), (32, .if_icmp .gt 35, 3, []), (35, .iload_n 2, 1, []), (36, .iconst (-1), 1, []), (37, .if_icmp .ne 30, 3, []), (40, .aload_n 0, 1, []), (41, .iload_n 1, 1, []), (42, .iconst 0, 1, []), (43, .invokevirtual 69, 3, [1770, 1772, 62, 110, 1773]), (46, .ifCond .ne 7, 3, []), (49, .iload_n 3, 1, []), (50, .goto 4, 3, []), (53, .iconst (-1), 1, []), (54, .istore_n 2, 1, []), (55, .aload_n 0, 1, []), (56, .iconst 1, 1, []), (57, .invokevirtual 373, 3, [1894, 1896, 81, 110, 1897]), (60, .pop, 1, []), (61, .iinc 3 1, 3, []), (64, .goto (-36), 3, []), (67, .aload_n 0, 1, []), (68, .invokevirtual 383, 3, [1923, 1925, 87, 110, 1926]), (71, .iload_n 2, 1, []), (72, .ireturn, 1, [])]
def z_h273 : List (Nat × Nat × Nat × Nat × Nat × Nat × Nat) := []
def z_m274 : zMi := (RX12, yX12_changes, cX12_changes, 3, some .int, [])
def z_c274 : List zI := [(2, 0, 0, 0), (0, 0, 0, 0), (38, 9, 0, 0), (0, 0, 0, 0), (4, 1, 0, 0), (0, 0, 0, 0), (4, 2, 0, 0), (1, 2, 0, 0), (0, 0, 0, 24), (32, 26, 3, 0), (1, 1, 0, 0), (2, 0, 0, 0), (1, 2, 0, 0), (54, 186, 1, 9), (2, 0, 0, 0), (1, 2, 0, 0), (55, 187, 1, 0), (54, 186, 1, 9), (32, 21, 0, 0), (0, 0, 0, 1), (30, 22, 0, 0), (0, 0, 0, 0), (8, 0, 0, 0), (4, 1, 0, 0), (7, 2, 0, 1), (30, 7, 0, 0), (1, 1, 0, 0), (50, 0, 0, 0)]
def z_i274 : List zJ := [(0, .aload_n 0, 1, []), (1, .iconst 0, 1, []), (2, .putfield 3, 3, [1457]), (5, .iconst 0, 1, []), (6, .istore_n 1, 1, []), (7, .iconst 0, 1, []), (8, .istore_n 2, 1, []), (9, .iload_n 2, 1, []), (10, .bipush 24, 2, []), (12, .if_icmp .ge 33, 3, []), (15, .iload_n 1, 1, []), (16, .aload_n 0, 1, []), (17, .iload_n 2, 1, []), (18, .invokevirtual 61, 3, [1633, 1635, 39, 110, 1636]), (21, .aload_n 0, 1, []), (22, .iload_n 2, 1, []), (23, .invokestatic 137, 3, [1619, 1620, 110, 1621]), (26, .invokevirtual 61, 3, [1633, 1635, 39, 110, 1636]), (29, .if_icmp .eq 7, 3, []), (32, .iconst 1, 1, []), (33, .goto 4, 3, []), (36, .iconst 0, 1, []), (37, .iadd, 1, []), (38, .istore_n 1, 1, []), (39, .iinc 2 1, 3, []), (42, .goto (-33), 3, []), (45, .iload_n 1, 1, []), (46, .ireturn, 1, [])]
def z_h274 : List (Nat × Nat × Nat × Nat × Nat × Nat × Nat) := []
def z_m275 : zMi := (RX12, yX12_meets, cX12_meets, 4, some .boolean, [])
def z_c275 : List zI := [(2, 0, 0, 0), (1, 3, 0, 0), (54, 186, 1, 9), (1, 1, 0, 0), (32, 13, 1, 0), (2, 0, 0, 0), (1, 3, 0, 0), (55, 187, 1, 0), (54, 186, 1, 9), (1, 2, 0, 0), (32, 13, 1, 0), (0, 0, 0, 1), (30, 14, 0, 0), (0, 0, 0, 0), (50, 0, 0, 0)]
def z_i275 : List zJ := [(0, .aload_n 0, 1, []), (1, .iload_n 3, 1, []), (2, .invokevirtual 61, 3, [1633, 1635, 39, 110, 1636]), (5, .iload_n 1, 1, []), (6, .if_icmp .ne 19, 3, []), (9, .aload_n 0, 1, []), (10, .iload_n 3, 1, []), (11, .invokestatic 137, 3, [1619, 1620, 110, 1621]), (14, .invokevirtual 61, 3, [1633, 1635, 39, 110, 1636]), (17, .iload_n 2, 1, []), (18, .if_icmp .ne 7, 3, []), (21, .iconst 1, 1, []), (22, .goto 4, 3, []), (25, .iconst 0, 1, []), (26, .ireturn, 1, [])]
def z_h275 : List (Nat × Nat × Nat × Nat × Nat × Nat × Nat) := []
def z_m276 : zMi := (RX12, yX12_metBy, cX12_metBy, 5, some .int, [])
def z_c276 : List zI := [(0, 0, 0, 0), (4, 3, 0, 0), (0, 0, 0, 0), (4, 4, 0, 0), (1, 4, 0, 0), (0, 0, 0, 24), (32, 29, 3, 0), (1, 3, 0, 0), (2, 0, 0, 0), (1, 1, 0, 0), (1, 2, 0, 0), (1, 4, 0, 0), (54, 275, 3, 9), (31, 20, 1, 0), (2, 0, 0, 0), (1, 2, 0, 0), (1, 1, 0, 0), (1, 4, 0, 0), (54, 275, 3, 9), (31, 24, 0, 0), (0, 0, 0, 1), (1, 4, 0, 0), (13, 0, 0, 0), (30, 25, 0, 0), (0, 0, 0, 0), (17, 0, 0, 0), (4, 3, 0, 0), (7, 4, 0, 1), (30, 4, 0, 0), (1, 3, 0, 0), (50, 0, 0, 0)]
def z_i276 : List zJ := [(0, .iconst 0, 1, []), (1, .istore_n 3, 1, []), (2, .iconst 0, 1, []), (3, .istore 4, 2, []), (5, .iload 4, 2, []), (7, .bipush 24, 2, []), (9, .if_icmp .ge 42, 3, []), (12, .iload_n 3, 1, []), (13, .aload_n 0, 1, []), (14, .iload_n 1, 1, []), (15, .iload_n 2, 1, []), (16, .iload 4, 2, []), (18, .invokevirtual 386, 3, [1951, 1953, 89, 110, 1954]), (21, .ifCond .ne 14, 3, []), (24, .aload_n 0, 1, []), (25, .iload_n 2, 1, []), (26, .iload_n 1, 1, []), (27, .iload 4, 2, []), (29, .invokevirtual 386, 3, [1951, 1953, 89, 110, 1954]), (32, .ifCond .eq 10, 3, []), (35, .iconst 1, 1, []), (36, .iload 4, 2, []), (38, .ishl, 1, []), (39, .goto 4, 3, []), (42, .iconst 0, 1, []), (43, .ior, 1, []), (44, .istore_n 3, 1, []), (45, .iinc 4 1, 3, []), (48, .goto (-43), 3, []), (51, .iload_n 3, 1, []), (52, .ireturn, 1, [])]
def z_h276 : List (Nat × Nat × Nat × Nat × Nat × Nat × Nat) := []
def z_m277 : zMi := (RX12, yX12_met, cX12_met, 3, some .int, [])
def z_c277 : List zI := [(2, 0, 0, 0), (0, 0, 0, 0), (38, 9, 0, 0), (2, 0, 0, 0), (2, 0, 0, 0), (1, 1, 0, 0), (54, 195, 1, 9), (31, 12, 1, 0), (2, 0, 0, 0), (1, 2, 0, 0), (54, 195, 1, 9), (31, 14, 0, 0), (0, 0, 0, 1), (30, 15, 0, 0), (0, 0, 0, 0), (0, 0, 0, 1), (54, 176, 2, 9), (31, 28, 1, 0), (2, 0, 0, 0), (1, 1, 0, 0), (1, 2, 0, 0), (32, 24, 1, 0), (0, 0, 0, 1), (30, 25, 0, 0), (0, 0, 0, 0), (0, 0, 0, 2), (54, 176, 2, 9), (31, 30, 0, 0), (0, 0, 0, 0), (30, 34, 0, 0), (2, 0, 0, 0), (1, 1, 0, 0), (1, 2, 0, 0), (54, 276, 2, 9), (50, 0, 0, 0)]
def z_i277 : List zJ := [(0, .aload_n 0, 1, []), (1, .iconst 0, 1, []), (2, .putfield 3, 3, [1457]), (5, .aload_n 0, 1, []), (6, .aload_n 0, 1, []), (7, .iload_n 1, 1, []), (8, .invokevirtual 317, 3, [1745, 1747, 57, 110, 1748]), (11, .ifCond .ne 11, 3, []), (14, .aload_n 0, 1, []), (15, .iload_n 2, 1, []), (16, .invokevirtual 317, 3, [1745, 1747, 57, 110, 1748]), (19, .ifCond .eq 7, 3, []), (22, .iconst 1, 1, []), (23, .goto 4, 3, []), (26, .iconst 0, 1, []), (27, .iconst 1, 1, []), (28, .invokevirtual 270, 3, [1723, 1725, 56, 110, 1726]), (31, .ifCond .ne 21, 3, []), (34, .aload_n 0, 1, []), (35, .iload_n 1, 1, []), (36, .iload_n 2, 1, []), (37, .if_icmp .ne 7, 3, []), (40, .iconst 1, 1, []), (41, .goto 4, 3, []), (44, .iconst 0, 1, []), (45, .iconst 2, 1, []), (46, .invokevirtual 270, 3, [1723, 1725, 56, 110, 1726]), (49, .ifCond .eq 7, 3, []), (52, .iconst 0, 1, []), (53, .goto 9, 3, []), (56, .aload_n 0, 1, []), (57, .iload_n 1, 1, []), (58, .iload_n 2, 1, []), (59, .invokevirtual 389, 3, [1947, 1949, 88, 110, 1950]), (62, .ireturn, 1, [])]
def z_h277 : List (Nat × Nat × Nat × Nat × Nat × Nat × Nat) := []
def z_m278 : zMi := (RX12, yX12_lovers, cX12_lovers, 4, some .int, [])
def z_c278 : List zI := [(2, 0, 0, 0), (0, 0, 0, 0), (38, 9, 0, 0), (0, 0, 0, 0), (4, 1, 0, 0), (0, 0, 0, 0), (4, 2, 0, 0), (1, 2, 0, 0), (2, 0, 0, 0), (54, 184, 0, 9), (32, 33, 3, 0), (0, 0, 0, 0), (4, 3, 0, 0), (1, 3, 0, 0), (1, 2, 0, 0), (32, 31, 3, 0), (1, 1, 0, 0), (2, 0, 0, 0), (1, 2, 0, 0), (1, 3, 0, 0), (54, 276, 2, 9), (55, 311, 1, 0), (0, 0, 0, 1), (32, 26, 5, 0), (0, 0, 0, 1), (30, 27, 0, 0), (0, 0, 0, 0), (8, 0, 0, 0), (4, 1, 0, 0), (7, 3, 0, 1), (30, 13, 0, 0), (7, 2, 0, 1), (30, 7, 0, 0), (1, 1, 0, 0), (50, 0, 0, 0)]
def z_i278 : List zJ := [(0, .aload_n 0, 1, []), (1, .iconst 0, 1, []), (2, .putfield 3, 3, [1457]), (5, .iconst 0, 1, []), (6, .istore_n 1, 1, []), (7, .iconst 0, 1, []), (8, .istore_n 2, 1, []), (9, .iload_n 2, 1, []), (10, .aload_n 0, 1, []), (11, .invokevirtual 82, 3, [1594, 1596, 33, 110, 1597]), (14, .if_icmp .ge 43, 3, []), (17, .iconst 0, 1, []), (18, .istore_n 3, 1, []), (19, .iload_n 3, 1, []), (20, .iload_n 2, 1, []), (21, .if_icmp .ge 30, 3, []), (24, .iload_n 1, 1, []), (25, .aload_n 0, 1, []), (26, .iload_n 2, 1, []), (27, .iload_n 3, 1, []), (28, .invokevirtual 389, 3, [1947, 1949, 88, 110, 1950]), (31, .invokestatic 301, 3, [1757, 482, 126, 483]), (34, .iconst 1, 1, []), (35, .if_icmp .le 7, 3, []), (38, .iconst 1, 1, []), (39, .goto 4, 3, []), (42, .iconst 0, 1, []), (43, .iadd, 1, []), (44, .istore_n 1, 1, []), (45, .iinc 3 1, 3, []), (48, .goto (-29), 3, []), (51, .iinc 2 1, 3, []), (54, .goto (-45), 3, []), (57, .iload_n 1, 1, []), (58, .ireturn, 1, [])]
def z_h278 : List (Nat × Nat × Nat × Nat × Nat × Nat × Nat) := []
def z_m279 : zMi := (RX12, yX12_gaps, cX12_gaps, 1, some .int, [])
def z_c279 : List zI := [(2, 0, 0, 0), (0, 0, 0, 0), (38, 9, 0, 0), (2, 0, 0, 0), (0, 0, 0, -1), (54, 242, 1, 9), (50, 0, 0, 0)]
def z_i279 : List zJ := [(0, .aload_n 0, 1, []), (1, .iconst 0, 1, []), (2, .putfield 3, 3, [1457]), (5, .aload_n 0, 1, []), (6, .iconst (-1), 1, []), (7, .invokevirtual 298, 3, [1749, 1751, 58, 110, 1752]), (10, .ireturn, 1, [])]
def z_h279 : List (Nat × Nat × Nat × Nat × Nat × Nat × Nat) := []
def z_m280 : zMi := (RX12, yX12_widows, cX12_widows, 3, some .int, [])
def z_c280 : List zI := [(2, 0, 0, 0), (0, 0, 0, 0), (38, 9, 0, 0), (0, 0, 0, 0), (4, 1, 0, 0), (0, 0, 0, 0), (4, 2, 0, 0), (1, 2, 0, 0), (2, 0, 0, 0), (54, 184, 0, 9), (32, 26, 3, 0), (1, 1, 0, 0), (2, 0, 0, 0), (1, 2, 0, 0), (54, 243, 1, 9), (0, 0, 0, 1), (32, 21, 1, 0), (0, 0, 0, 1), (1, 2, 0, 0), (13, 0, 0, 0), (30, 22, 0, 0), (0, 0, 0, 0), (17, 0, 0, 0), (4, 1, 0, 0), (7, 2, 0, 1), (30, 7, 0, 0), (1, 1, 0, 0), (50, 0, 0, 0)]
def z_i280 : List zJ := [(0, .aload_n 0, 1, []), (1, .iconst 0, 1, []), (2, .putfield 3, 3, [1457]), (5, .iconst 0, 1, []), (6, .istore_n 1, 1, []), (7, .iconst 0, 1, []), (8, .istore_n 2, 1, []), (9, .iload_n 2, 1, []), (10, .aload_n 0, 1, []), (11, .invokevirtual 82, 3, [1594, 1596, 33, 110, 1597]), (14, .if_icmp .ge 28, 3, []), (17, .iload_n 1, 1, []), (18, .aload_n 0, 1, []), (19, .iload_n 2, 1, []), (20, .invokevirtual 320, 3, [1753, 1755, 59, 110, 1756]), (23, .iconst 1, 1, []), (24, .if_icmp .ne 9, 3, []), (27, .iconst 1, 1, []), (28, .iload_n 2, 1, []), (29, .ishl, 1, []), (30, .goto 4, 3, []), (33, .iconst 0, 1, []), (34, .ior, 1, []), (35, .istore_n 1, 1, []), (36, .iinc 2 1, 3, []), (39, .goto (-30), 3, []), (42, .iload_n 1, 1, []), (43, .ireturn, 1, [])]
def z_h280 : List (Nat × Nat × Nat × Nat × Nat × Nat × Nat) := []
def z_m281 : zMi := (RX12, yX12_fewest, cX12_fewest, 3, some .int, [])
def z_c281 : List zI := [(2, 0, 0, 0), (0, 0, 0, 0), (38, 9, 0, 0), (2, 0, 0, 0), (0, 0, 0, -1), (54, 242, 1, 9), (31, 9, 0, 0), (0, 0, 0, 1), (30, 10, 0, 0), (0, 0, 0, 0), (4, 1, 0, 0), (0, 0, 0, 0), (4, 2, 0, 0), (1, 2, 0, 0), (2, 0, 0, 0), (54, 184, 0, 9), (32, 29, 3, 0), (1, 1, 0, 0), (2, 0, 0, 0), (1, 2, 0, 0), (54, 243, 1, 9), (31, 24, 5, 0), (0, 0, 0, 1), (30, 25, 0, 0), (0, 0, 0, 0), (8, 0, 0, 0), (4, 1, 0, 0), (7, 2, 0, 1), (30, 13, 0, 0), (1, 1, 0, 0), (0, 0, 0, 2), (32, 34, 3, 0), (0, 0, 0, 0), (30, 35, 0, 0), (1, 1, 0, 0), (50, 0, 0, 0)]
def z_i281 : List zJ := [(0, .aload_n 0, 1, []), (1, .iconst 0, 1, []), (2, .putfield 3, 3, [1457]), (5, .aload_n 0, 1, []), (6, .iconst (-1), 1, []), (7, .invokevirtual 298, 3, [1749, 1751, 58, 110, 1752]), (10, .ifCond .eq 7, 3, []), (13, .iconst 1, 1, []), (14, .goto 4, 3, []), (17, .iconst 0, 1, []), (18, .istore_n 1, 1, []), (19, .iconst 0, 1, []), (20, .istore_n 2, 1, []), (21, .iload_n 2, 1, []), (22, .aload_n 0, 1, []), (23, .invokevirtual 82, 3, [1594, 1596, 33, 110, 1597]), (26, .if_icmp .ge 25, 3, []), (29, .iload_n 1, 1, []), (30, .aload_n 0, 1, []), (31, .iload_n 2, 1, []), (32, .invokevirtual 320, 3, [1753, 1755, 59, 110, 1756]), (35, .ifCond .le 7, 3, []), (38, .iconst 1, 1, []), (39, .goto 4, 3, []), (42, .iconst 0, 1, []), (43, .iadd, 1, []), (44, .istore_n 1, 1, []), (45, .iinc 2 1, 3, []), (48, .goto (-27), 3, []), (51, .iload_n 1, 1, []), (52, .iconst 2, 1, []), (53, .if_icmp .ge 7, 3, []), (56, .iconst 0, 1, []), (57, .goto 4, 3, []), (60, .iload_n 1, 1, []), (61, .ireturn, 1, [])]
def z_h281 : List (Nat × Nat × Nat × Nat × Nat × Nat × Nat) := []
def z_m282 : zMi := (RX12, yX12_parts, cX12_parts, 3, some .int, [])
def z_c282 : List zI := [(1, 0, 0, 0), (0, 0, 0, 16777215), (32, 5, 1, 0), (0, 0, 0, 12), (50, 0, 0, 0), (0, 0, 0, 0), (4, 1, 0, 0), (0, 0, 0, 0), (4, 2, 0, 0), (1, 2, 0, 0), (0, 0, 0, 24), (32, 38, 3, 0), (1, 1, 0, 0), (1, 0, 0, 0), (1, 2, 0, 0), (55, 178, 2, 0), (31, 33, 0, 0), (1, 0, 0, 0), (1, 2, 0, 0), (0, 0, 0, 24), (8, 0, 0, 0), (0, 0, 0, 1), (9, 0, 0, 0), (0, 0, 0, 24), (12, 0, 0, 0), (55, 178, 2, 0), (31, 33, 1, 0), (1, 0, 0, 0), (1, 2, 0, 0), (55, 245, 2, 0), (0, 0, 0, 2), (11, 0, 0, 0), (30, 34, 0, 0), (0, 0, 0, 0), (8, 0, 0, 0), (4, 1, 0, 0), (7, 2, 0, 1), (30, 9, 0, 0), (1, 1, 0, 0), (50, 0, 0, 0)]
def z_i282 : List zJ := [(0, .iload_n 0, 1, []), (1, .ldc_w 392, 3, [1978]), (4, .if_icmp .ne 6, 3, []), (7, .bipush 12, 2, []), (9, .ireturn, 1, []), (10, .iconst 0, 1, []), (11, .istore_n 1, 1, []), (12, .iconst 0, 1, []), (13, .istore_n 2, 1, []), (14, .iload_n 2, 1, []), (15, .bipush 24, 2, []), (17, .if_icmp .ge 47, 3, []), (20, .iload_n 1, 1, []), (21, .iload_n 0, 1, []), (22, .iload_n 2, 1, []), (23, .invokestatic 72, 3, [1630, 1631, 110, 1632]), (26, .ifCond .eq 29, 3, []), (29, .iload_n 0, 1, []), (30, .iload_n 2, 1, []), (31, .bipush 24, 2, []), (33, .iadd, 1, []), (34, .iconst 1, 1, []), (35, .isub, 1, []), (36, .bipush 24, 2, []), (38, .irem, 1, []), (39, .invokestatic 72, 3, [1630, 1631, 110, 1632]), (42, .ifCond .ne 13, 3, []), (45, .iload_n 0, 1, []), (46, .iload_n 2, 1, []), (47, .invokestatic 306, 3, [1762, 1763, 110, 1764]), (50, .iconst 2, 1, []), (51, .idiv, 1, []), (52, .goto 4, 3, []), (55, .iconst 0, 1, []), (56, .iadd, 1, []), (57, .istore_n 1, 1, []), (58, .iinc 2 1, 3, []), (61, .goto (-47), 3, []), (64, .iload_n 1, 1, []), (65, .ireturn, 1, [])]
def z_h282 : List (Nat × Nat × Nat × Nat × Nat × Nat × Nat) := []
def z_m283 : zMi := (RX12, yX12_corner, cX12_corner, 4, some .int, [])
def z_c283 : List zI := [(2, 0, 0, 0), (0, 0, 0, 0), (38, 9, 0, 0), (2, 0, 0, 0), (2, 0, 0, 0), (1, 1, 0, 0), (54, 195, 1, 9), (0, 0, 0, 1), (54, 176, 2, 9), (31, 12, 0, 0), (0, 0, 0, 0), (50, 0, 0, 0), (0, 0, 0, 0), (4, 2, 0, 0), (0, 0, 0, 0), (4, 3, 0, 0), (1, 3, 0, 0), (2, 0, 0, 0), (54, 184, 0, 9), (32, 34, 3, 0), (1, 2, 0, 0), (1, 3, 0, 0), (1, 1, 0, 0), (32, 26, 1, 0), (0, 0, 0, 0), (30, 30, 0, 0), (2, 0, 0, 0), (1, 3, 0, 0), (54, 242, 1, 9), (55, 282, 1, 0), (8, 0, 0, 0), (4, 2, 0, 0), (7, 3, 0, 1), (30, 16, 0, 0), (1, 2, 0, 0), (50, 0, 0, 0)]
def z_i283 : List zJ := [(0, .aload_n 0, 1, []), (1, .iconst 0, 1, []), (2, .putfield 3, 3, [1457]), (5, .aload_n 0, 1, []), (6, .aload_n 0, 1, []), (7, .iload_n 1, 1, []), (8, .invokevirtual 317, 3, [1745, 1747, 57, 110, 1748]), (11, .iconst 1, 1, []), (12, .invokevirtual 270, 3, [1723, 1725, 56, 110, 1726]), (15, .ifCond .eq 5, 3, []), (18, .iconst 0, 1, []), (19, .ireturn, 1, []), (20, .iconst 0, 1, []), (21, .istore_n 2, 1, []), (22, .iconst 0, 1, []), (23, .istore_n 3, 1, []), (24, .iload_n 3, 1, []), (25, .aload_n 0, 1, []), (26, .invokevirtual 82, 3, [1594, 1596, 33, 110, 1597]), (29, .if_icmp .ge 29, 3, []), (32, .iload_n 2, 1, []), (33, .iload_n 3, 1, []), (34, .iload_n 1, 1, []), (35, .if_icmp .ne 7, 3, []), (38, .iconst 0, 1, []), (39, .goto 11, 3, []), (42, .aload_n 0, 1, []), (43, .iload_n 3, 1, []), (44, .invokevirtual 298, 3, [1749, 1751, 58, 110, 1752]), (47, .invokestatic 393, 3, [1975, 1976, 110, 1977]), (50, .iadd, 1, []), (51, .istore_n 2, 1, []), (52, .iinc 3 1, 3, []), (55, .goto (-31), 3, []), (58, .iload_n 2, 1, []), (59, .ireturn, 1, [])]
def z_h283 : List (Nat × Nat × Nat × Nat × Nat × Nat × Nat) := []
def z_m284 : zMi := (RX12, yX12_lesson, cX12_lesson, 4, some .int, [])
def z_c284 : List zI := [(2, 0, 0, 0), (0, 0, 0, 0), (38, 9, 0, 0), (2, 0, 0, 0), (1, 1, 0, 0), (0, 0, 0, 1), (0, 0, 0, 24), (55, 177, 3, 0), (31, 11, 1, 0), (0, 0, 0, 1), (30, 12, 0, 0), (0, 0, 0, 0), (0, 0, 0, 1), (54, 176, 2, 9), (31, 17, 0, 0), (0, 0, 0, 0), (50, 0, 0, 0), (0, 0, 0, 0), (4, 2, 0, 0), (1, 2, 0, 0), (0, 0, 0, 24), (32, 46, 3, 0), (0, 0, 0, 0), (4, 3, 0, 0), (1, 3, 0, 0), (2, 0, 0, 0), (54, 184, 0, 9), (32, 44, 3, 0), (2, 0, 0, 0), (1, 3, 0, 0), (54, 242, 1, 9), (2, 0, 0, 0), (1, 3, 0, 0), (0, 0, 0, 3), (54, 190, 2, 9), (16, 0, 0, 0), (1, 2, 0, 0), (55, 245, 2, 0), (1, 1, 0, 0), (32, 42, 2, 0), (1, 2, 0, 0), (50, 0, 0, 0), (7, 3, 0, 1), (30, 24, 0, 0), (7, 2, 0, 1), (30, 19, 0, 0), (0, 0, 0, -1), (50, 0, 0, 0)]
def z_i284 : List zJ := [(0, .aload_n 0, 1, []), (1, .iconst 0, 1, []), (2, .putfield 3, 3, [1457]), (5, .aload_n 0, 1, []), (6, .iload_n 1, 1, []), (7, .iconst 1, 1, []), (8, .bipush 24, 2, []), (10, .invokestatic 86, 3, [1738, 1739, 110, 1740]), (13, .ifCond .ne 7, 3, []), (16, .iconst 1, 1, []), (17, .goto 4, 3, []), (20, .iconst 0, 1, []), (21, .iconst 1, 1, []), (22, .invokevirtual 270, 3, [1723, 1725, 56, 110, 1726]), (25, .ifCond .eq 5, 3, []), (28, .iconst 0, 1, []), (29, .ireturn, 1, []), (30, .iconst 0, 1, []), (31, .istore_n 2, 1, []), (32, .iload_n 2, 1, []), (33, .bipush 24, 2, []), (35, .if_icmp .ge 47, 3, []), (38, .iconst 0, 1, []), (39, .istore_n 3, 1, []), (40, .iload_n 3, 1, []), (41, .aload_n 0, 1, []), (42, .invokevirtual 82, 3, [1594, 1596, 33, 110, 1597]), (45, .if_icmp .ge 31, 3, []), (48, .aload_n 0, 1, []), (49, .iload_n 3, 1, []), (50, .invokevirtual 298, 3, [1749, 1751, 58, 110, 1752]), (53, .aload_n 0, 1, []), (54, .iload_n 3, 1, []), (55, .iconst 3, 1, []), (56, .invokevirtual 69, 3, [1770, 1772, 62, 110, 1773]), (59, .iand, 1, []), (60, .iload_n 2, 1, []), (61, .invokestatic 306, 3, [1762, 1763, 110, 1764]), (64, .iload_n 1, 1, []), (65, .if_icmp .lt 5, 3, []), (68, .iload_n 2, 1, []), (69, .ireturn, 1, []), (70, .iinc 3 1, 3, []), (73, .goto (-33), 3, []), (76, .iinc 2 1, 3, []), (79, .goto (-47), 3, []), (82, .iconst (-1), 1, []), (83, .ireturn, 1, [])]
def z_h284 : List (Nat × Nat × Nat × Nat × Nat × Nat × Nat) := []
def z_m285 : zMi := (RX12, yX12_looksFor, cX12_looksFor, 4, some .int, [])
def z_c285 : List zI := [(0, 0, 0, 0), (4, 3, 0, 0), (1, 3, 0, 0), (2, 0, 0, 0), (54, 184, 0, 9), (32, 47, 3, 0), (2, 0, 0, 0), (37, 9, 22, 0), (1, 3, 0, 0), (55, 178, 2, 0), (31, 45, 1, 0), (2, 0, 0, 0), (1, 3, 0, 0), (1, 1, 0, 0), (54, 191, 2, 9), (31, 17, 1, 0), (30, 45, 0, 0), (2, 0, 0, 0), (27, 0, 0, 0), (37, 9, 22, 0), (0, 0, 0, 1), (1, 3, 0, 0), (13, 0, 0, 0), (17, 0, 0, 0), (38, 9, 22, 0), (2, 0, 0, 0), (37, 9, 20, 0), (1, 3, 0, 0), (1, 1, 0, 0), (40, 0, 0, 0), (2, 0, 0, 0), (37, 9, 21, 0), (1, 3, 0, 0), (1, 2, 0, 0), (40, 0, 0, 0), (2, 0, 0, 0), (37, 9, 19, 0), (1, 3, 0, 0), (39, 0, 0, 0), (2, 0, 0, 0), (1, 3, 0, 0), (54, 243, 1, 9), (32, 45, 3, 0), (1, 3, 0, 0), (50, 0, 0, 0), (7, 3, 0, 1), (30, 2, 0, 0), (0, 0, 0, -1), (50, 0, 0, 0)]
def z_i285 : List zJ := [(0, .iconst 0, 1, []), (1, .istore_n 3, 1, []), (2, .iload_n 3, 1, []), (3, .aload_n 0, 1, []), (4, .invokevirtual 82, 3, [1594, 1596, 33, 110, 1597]), (7, .if_icmp .ge 74, 3, []), (10, .aload_n 0, 1, []), (11, .getfield 396, 3, [1479]), (14, .iload_n 3, 1, []), (15, .invokestatic 72, 3, [1630, 1631, 110, 1632]), (18, .ifCond .ne 57, 3, []), (21, .aload_n 0, 1, []), (22, .iload_n 3, 1, []), (23, .iload_n 1, 1, []), (24, .invokevirtual 285, 3, [1817, 1819, 72, 110, 1820]), (27, .ifCond .ne 6, 3, []), (30, .goto 45, 3, []), (33, .aload_n 0, 1, []), (34, .dup, 1, []), (35, .getfield 396, 3, [1479]), (38, .iconst 1, 1, []), (39, .iload_n 3, 1, []), (40, .ishl, 1, []), (41, .ior, 1, []), (42, .putfield 396, 3, [1479]), (45, .aload_n 0, 1, []), (46, .getfield 48, 3, [1477]), (49, .iload_n 3, 1, []), (50, .iload_n 1, 1, []), (51, .iastore, 1, []), (52, .aload_n 0, 1, []), (53, .getfield 51, 3, [1478]), (56, .iload_n 3, 1, []), (57, .iload_n 2, 1, []), (58, .iastore, 1, []), (59, .aload_n 0, 1, []), (60, .getfield 45, 3, [1476]), (63, .iload_n 3, 1, []), (64, .iaload, 1, []), (65, .aload_n 0, 1, []), (66, .iload_n 3, 1, []), (67, .invokevirtual 320, 3, [1753, 1755, 59, 110, 1756]), (70, .if_icmp .ge 5, 3, []), (73, .iload_n 3, 1, []), (74, .ireturn, 1, []), (75, .iinc 3 1, 3, []), (78, .goto (-76), 3, []), (81, .iconst (-1), 1, []), (82, .ireturn, 1, [])]
def z_h285 : List (Nat × Nat × Nat × Nat × Nat × Nat × Nat) := []
def z_m286 : zMi := (RX12, yX12_findsRoom, cX12_findsRoom, 5, some .int, [])
def z_c286 : List zI := [(2, 0, 0, 0), (0, 0, 0, 0), (38, 9, 22, 0), (2, 0, 0, 0), (1, 1, 0, 0), (0, 0, 0, -1), (54, 285, 2, 9), (4, 2, 0, 0), (0, 0, 0, 0), (4, 3, 0, 0), (1, 3, 0, 0), (0, 0, 0, 6), (32, 50, 3, 0), (1, 2, 0, 0), (0, 0, 0, -1), (32, 50, 1, 0), (0, 0, 0, 0), (4, 4, 0, 0), (1, 4, 0, 0), (0, 0, 0, 24), (32, 48, 3, 0), (1, 2, 0, 0), (0, 0, 0, -1), (32, 48, 1, 0), (2, 0, 0, 0), (37, 9, 18, 0), (1, 4, 0, 0), (39, 0, 0, 0), (0, 0, 0, -1), (32, 46, 0, 0), (2, 0, 0, 0), (37, 9, 22, 0), (2, 0, 0, 0), (37, 9, 18, 0), (1, 4, 0, 0), (39, 0, 0, 0), (55, 178, 2, 0), (31, 46, 0, 0), (2, 0, 0, 0), (1, 4, 0, 0), (2, 0, 0, 0), (37, 9, 18, 0), (1, 4, 0, 0), (39, 0, 0, 0), (54, 285, 2, 9), (4, 2, 0, 0), (7, 4, 0, 1), (30, 18, 0, 0), (7, 3, 0, 1), (30, 10, 0, 0), (1, 2, 0, 0), (50, 0, 0, 0)]
def z_i286 : List zJ := [(0, .aload_n 0, 1, []), (1, .iconst 0, 1, []), (2, .putfield 396, 3, [1479]), (5, .aload_n 0, 1, []), (6, .iload_n 1, 1, []), (7, .iconst (-1), 1, []), (8, .invokevirtual 399, 3, [1995, 1997, 92, 110, 1998]), (11, .istore_n 2, 1, []), (12, .iconst 0, 1, []), (13, .istore_n 3, 1, []), (14, .iload_n 3, 1, []), (15, .bipush 6, 2, []), (17, .if_icmp .ge 77, 3, []), (20, .iload_n 2, 1, []), (21, .iconst (-1), 1, []), (22, .if_icmp .ne 72, 3, []), (25, .iconst 0, 1, []), (26, .istore 4, 2, []), (28, .iload 4, 2, []), (30, .bipush 24, 2, []), (32, .if_icmp .ge 56, 3, []), (35, .iload_n 2, 1, []), (36, .iconst (-1), 1, []), (37, .if_icmp .ne 51, 3, []), (40, .aload_n 0, 1, []), (41, .getfield 42, 3, [1475]), (44, .iload 4, 2, []), (46, .iaload, 1, []), (47, .iconst (-1), 1, []), (48, .if_icmp .eq 34, 3, []), (51, .aload_n 0, 1, []), (52, .getfield 396, 3, [1479]), (55, .aload_n 0, 1, []), (56, .getfield 42, 3, [1475]), (59, .iload 4, 2, []), (61, .iaload, 1, []), (62, .invokestatic 72, 3, [1630, 1631, 110, 1632]), (65, .ifCond .eq 17, 3, []), (68, .aload_n 0, 1, []), (69, .iload 4, 2, []), (71, .aload_n 0, 1, []), (72, .getfield 42, 3, [1475]), (75, .iload 4, 2, []), (77, .iaload, 1, []), (78, .invokevirtual 399, 3, [1995, 1997, 92, 110, 1998]), (81, .istore_n 2, 1, []), (82, .iinc 4 1, 3, []), (85, .goto (-57), 3, []), (88, .iinc 3 1, 3, []), (91, .goto (-77), 3, []), (94, .iload_n 2, 1, []), (95, .ireturn, 1, [])]
def z_h286 : List (Nat × Nat × Nat × Nat × Nat × Nat × Nat) := []
def z_m287 : zMi := (RX12, yX12_isDealt, cX12_isDealt, 4, some .boolean, [])
def z_c287 : List zI := [(2, 0, 0, 0), (1, 1, 0, 0), (54, 286, 1, 9), (4, 2, 0, 0), (1, 2, 0, 0), (0, 0, 0, -1), (32, 9, 1, 0), (0, 0, 0, 0), (50, 0, 0, 0), (2, 0, 0, 0), (37, 9, 19, 0), (1, 2, 0, 0), (28, 0, 0, 0), (39, 0, 0, 0), (0, 0, 0, 1), (8, 0, 0, 0), (40, 0, 0, 0), (1, 2, 0, 0), (0, 0, 0, -1), (32, 36, 0, 0), (2, 0, 0, 0), (37, 9, 20, 0), (1, 2, 0, 0), (39, 0, 0, 0), (4, 3, 0, 0), (2, 0, 0, 0), (37, 9, 18, 0), (1, 3, 0, 0), (1, 2, 0, 0), (40, 0, 0, 0), (2, 0, 0, 0), (37, 9, 21, 0), (1, 2, 0, 0), (39, 0, 0, 0), (4, 2, 0, 0), (30, 17, 0, 0), (0, 0, 0, 1), (50, 0, 0, 0)]
def z_i287 : List zJ := [(0, .aload_n 0, 1, []), (1, .iload_n 1, 1, []), (2, .invokevirtual 402, 3, [1991, 1993, 91, 110, 1994]), (5, .istore_n 2, 1, []), (6, .iload_n 2, 1, []), (7, .iconst (-1), 1, []), (8, .if_icmp .ne 5, 3, []), (11, .iconst 0, 1, []), (12, .ireturn, 1, []), (13, .aload_n 0, 1, []), (14, .getfield 45, 3, [1476]), (17, .iload_n 2, 1, []), (18, .dup2, 1, []), (19, .iaload, 1, []), (20, .iconst 1, 1, []), (21, .iadd, 1, []), (22, .iastore, 1, []), (23, .iload_n 2, 1, []), (24, .iconst (-1), 1, []), (25, .if_icmp .eq 27, 3, []), (28, .aload_n 0, 1, []), (29, .getfield 48, 3, [1477]), (32, .iload_n 2, 1, []), (33, .iaload, 1, []), (34, .istore_n 3, 1, []), (35, .aload_n 0, 1, []), (36, .getfield 42, 3, [1475]), (39, .iload_n 3, 1, []), (40, .iload_n 2, 1, []), (41, .iastore, 1, []), (42, .aload_n 0, 1, []), (43, .getfield 51, 3, [1478]), (46, .iload_n 2, 1, []), (47, .iaload, 1, []), (48, .istore_n 2, 1, []), (49, .goto (-26), 3, []), (52, .iconst 1, 1, []), (53, .ireturn, 1, [])]
def z_h287 : List (Nat × Nat × Nat × Nat × Nat × Nat × Nat) := []
def z_m288 : zMi := (RX12, yX12_deal, cX12_deal, 3, some .int, [])
def z_c288 : List zI := [(2, 0, 0, 0), (0, 0, 0, 0), (38, 9, 0, 0), (0, 0, 0, 0), (4, 1, 0, 0), (1, 1, 0, 0), (0, 0, 0, 24), (32, 15, 3, 0), (2, 0, 0, 0), (37, 9, 18, 0), (1, 1, 0, 0), (0, 0, 0, -1), (40, 0, 0, 0), (7, 1, 0, 1), (30, 5, 0, 0), (0, 0, 0, 0), (4, 1, 0, 0), (1, 1, 0, 0), (0, 0, 0, 6), (32, 27, 3, 0), (2, 0, 0, 0), (37, 9, 19, 0), (1, 1, 0, 0), (0, 0, 0, 0), (40, 0, 0, 0), (7, 1, 0, 1), (30, 17, 0, 0), (0, 0, 0, 0), (4, 1, 0, 0), (0, 0, 0, 0), (4, 2, 0, 0), (1, 2, 0, 0), (0, 0, 0, 24), (32, 46, 3, 0), (1, 1, 0, 0), (2, 0, 0, 0), (1, 2, 0, 0), (54, 287, 1, 9), (31, 41, 0, 0), (0, 0, 0, 1), (30, 42, 0, 0), (0, 0, 0, 0), (8, 0, 0, 0), (4, 1, 0, 0), (7, 2, 0, 1), (30, 31, 0, 0), (1, 1, 0, 0), (50, 0, 0, 0)]
def z_i288 : List zJ := [(0, .aload_n 0, 1, []), (1, .iconst 0, 1, []), (2, .putfield 3, 3, [1457]), (5, .iconst 0, 1, []), (6, .istore_n 1, 1, []), (7, .iload_n 1, 1, []), (8, .bipush 24, 2, []), (10, .if_icmp .ge 16, 3, []), (13, .aload_n 0, 1, []), (14, .getfield 42, 3, [1475]), (17, .iload_n 1, 1, []), (18, .iconst (-1), 1, []), (19, .iastore, 1, []), (20, .iinc 1 1, 3, []), (23, .goto (-16), 3, []), (26, .iconst 0, 1, []), (27, .istore_n 1, 1, []), (28, .iload_n 1, 1, []), (29, .bipush 6, 2, []), (31, .if_icmp .ge 16, 3, []), (34, .aload_n 0, 1, []), (35, .getfield 45, 3, [1476]), (38, .iload_n 1, 1, []), (39, .iconst 0, 1, []), (40, .iastore, 1, []), (41, .iinc 1 1, 3, []), (44, .goto (-16), 3, []), (47, .iconst 0, 1, []), (48, .istore_n 1, 1, []), (49, .iconst 0, 1, []), (50, .istore_n 2, 1, []), (51, .iload_n 2, 1, []), (52, .bipush 24, 2, []), (54, .if_icmp .ge 25, 3, []), (57, .iload_n 1, 1, []), (58, .aload_n 0, 1, []), (59, .iload_n 2, 1, []), (60, .invokevirtual 405, 3, [1987, 1989, 90, 110, 1990]), (63, .ifCond .eq 7, 3, []), (66, .iconst 1, 1, []), (67, .goto 4, 3, []), (70, .iconst 0, 1, []), (71, .iadd, 1, []), (72, .istore_n 1, 1, []), (73, .iinc 2 1, 3, []), (76, .goto (-25), 3, []), (79, .iload_n 1, 1, []), (80, .ireturn, 1, [])]
def z_h288 : List (Nat × Nat × Nat × Nat × Nat × Nat × Nat) := []
def z_m289 : zMi := (RX12, yX12_gladder, cX12_gladder, 4, some .int, [])
def z_c289 : List zI := [(2, 0, 0, 0), (1, 1, 0, 0), (1, 2, 0, 0), (54, 191, 2, 9), (31, 7, 0, 0), (0, 0, 0, 1), (30, 8, 0, 0), (0, 0, 0, 0), (2, 0, 0, 0), (1, 1, 0, 0), (1, 3, 0, 0), (54, 191, 2, 9), (31, 15, 0, 0), (0, 0, 0, 1), (30, 16, 0, 0), (0, 0, 0, 0), (9, 0, 0, 0), (50, 0, 0, 0)]
def z_i289 : List zJ := [(0, .aload_n 0, 1, []), (1, .iload_n 1, 1, []), (2, .iload_n 2, 1, []), (3, .invokevirtual 285, 3, [1817, 1819, 72, 110, 1820]), (6, .ifCond .eq 7, 3, []), (9, .iconst 1, 1, []), (10, .goto 4, 3, []), (13, .iconst 0, 1, []), (14, .aload_n 0, 1, []), (15, .iload_n 1, 1, []), (16, .iload_n 3, 1, []), (17, .invokevirtual 285, 3, [1817, 1819, 72, 110, 1820]), (20, .ifCond .eq 7, 3, []), (23, .iconst 1, 1, []), (24, .goto 4, 3, []), (27, .iconst 0, 1, []), (28, .isub, 1, []), (29, .ireturn, 1, [])]
def z_h289 : List (Nat × Nat × Nat × Nat × Nat × Nat × Nat) := []
def z_m290 : zMi := (RX12, yX12_trade, cX12_trade, 8, some .int, [])
def z_c290 : List zI := [(2, 0, 0, 0), (0, 0, 0, 0), (38, 9, 0, 0), (0, 0, 0, -1), (4, 1, 0, 0), (0, 0, 0, 0), (4, 2, 0, 0), (0, 0, 0, 0), (4, 3, 0, 0), (1, 3, 0, 0), (0, 0, 0, 24), (32, 80, 3, 0), (1, 3, 0, 0), (0, 0, 0, 1), (8, 0, 0, 0), (4, 4, 0, 0), (1, 4, 0, 0), (0, 0, 0, 24), (32, 78, 3, 0), (2, 0, 0, 0), (1, 3, 0, 0), (54, 186, 1, 9), (4, 5, 0, 0), (2, 0, 0, 0), (1, 4, 0, 0), (54, 186, 1, 9), (4, 6, 0, 0), (1, 5, 0, 0), (0, 0, 0, -1), (32, 76, 0, 0), (1, 6, 0, 0), (0, 0, 0, -1), (32, 76, 0, 0), (1, 5, 0, 0), (1, 6, 0, 0), (32, 76, 0, 0), (2, 0, 0, 0), (1, 5, 0, 0), (1, 4, 0, 0), (1, 3, 0, 0), (54, 289, 3, 9), (31, 76, 2, 0), (2, 0, 0, 0), (1, 6, 0, 0), (1, 3, 0, 0), (1, 4, 0, 0), (54, 289, 3, 9), (31, 49, 3, 0), (30, 76, 0, 0), (2, 0, 0, 0), (1, 5, 0, 0), (1, 4, 0, 0), (1, 3, 0, 0), (54, 289, 3, 9), (2, 0, 0, 0), (1, 6, 0, 0), (1, 3, 0, 0), (1, 4, 0, 0), (54, 289, 3, 9), (8, 0, 0, 0), (4, 7, 0, 0), (1, 7, 0, 0), (1, 2, 0, 0), (32, 70, 5, 0), (0, 0, 0, 24), (1, 3, 0, 0), (10, 0, 0, 0), (1, 4, 0, 0), (8, 0, 0, 0), (30, 71, 0, 0), (1, 1, 0, 0), (4, 1, 0, 0), (1, 2, 0, 0), (1, 7, 0, 0), (68, 0, 0, 0), (4, 2, 0, 0), (7, 4, 0, 1), (30, 16, 0, 0), (7, 3, 0, 1), (30, 9, 0, 0), (1, 1, 0, 0), (50, 0, 0, 0)]
def z_i290 : List zJ := [(0, .aload_n 0, 1, []), (1, .iconst 0, 1, []), (2, .putfield 3, 3, [1457]), (5, .iconst (-1), 1, []), (6, .istore_n 1, 1, []), (7, .iconst 0, 1, []), (8, .istore_n 2, 1, []), (9, .iconst 0, 1, []), (10, .istore_n 3, 1, []), (11, .iload_n 3, 1, []), (12, .bipush 24, 2, []), (14, .if_icmp .ge 134, 3, []), (17, .iload_n 3, 1, []), (18, .iconst 1, 1, []), (19, .iadd, 1, []), (20, .istore 4, 2, []), (22, .iload 4, 2, []), (24, .bipush 24, 2, []), (26, .if_icmp .ge 116, 3, []), (29, .aload_n 0, 1, []), (30, .iload_n 3, 1, []), (31, .invokevirtual 61, 3, [1633, 1635, 39, 110, 1636]), (34, .istore 5, 2, []), (36, .aload_n 0, 1, []), (37, .iload 4, 2, []), (39, .invokevirtual 61, 3, [1633, 1635, 39, 110, 1636]), (42, .istore 6, 2, []), (44, .iload 5, 2, []), (46, .iconst (-1), 1, []), (47, .if_icmp .eq 89, 3, []), (50, .iload 6, 2, []), (52, .iconst (-1), 1, []), (53, .if_icmp .eq 83, 3, []), (56, .iload 5, 2, []), (58, .iload 6, 2, []), (60, .if_icmp .eq 76, 3, []), (63, .aload_n 0, 1, []), (64, .iload 5, 2, []), (66, .iload 4, 2, []), (68, .iload_n 3, 1, []), (69, .invokevirtual 408, 3, [2003, 2005, 93, 110, 2006]), (72, .ifCond .lt 64, 3, []), (75, .aload_n 0, 1, []), (76, .iload 6, 2, []), (78, .iload_n 3, 1, []), (79, .iload 4, 2, []), (81, .invokevirtual 408, 3, [2003, 2005, 93, 110, 2006]), (84, .ifCond .ge 6, 3, []), (87, .goto 49, 3, []), (90, .aload_n 0, 1, []), (91, .iload 5, 2, []), (93, .iload 4, 2, []), (95, .iload_n 3, 1, []), (96, .invokevirtual 408, 3, [2003, 2005, 93, 110, 2006]), (99, .aload_n 0, 1, []), (100, .iload 6, 2, []), (102, .iload_n 3, 1, []), (103, .iload 4, 2, []), (105, .invokevirtual 408, 3, [2003, 2005, 93, 110, 2006]), (108, .iadd, 1, []), (109, .istore 7, 2, []), (111, .iload 7, 2, []), (113, .iload_n 2, 1, []), (114, .if_icmp .le 13, 3, []), (117, .bipush 24, 2, []), (119, .iload_n 3, 1, []), (120, .imul, 1, []), (121, .iload 4, 2, []), (123, .iadd, 1, []), (124, .goto 4, 3, []), (127, .iload_n 1, 1, []), (128, .istore_n 1, 1, []), (129, .iload_n 2, 1, []), (130, .iload 7, 2, []), (132, .invokestatic 309, 3, [1765]), (135, .istore_n 2, 1, []), (136, .iinc 4 1, 3, []), (139, .goto (-117), 3, []), (142, .iinc 3 1, 3, []), (145, .goto (-134), 3, []), (148, .iload_n 1, 1, []), (149, .ireturn, 1, [])]
def z_h290 : List (Nat × Nat × Nat × Nat × Nat × Nat × Nat) := []
def z_m291 : zMi := (RX12, yX12_worthOf, cX12_worthOf, 6, some .int, [])
def z_c291 : List zI := [(0, 0, 0, 0), (4, 2, 0, 0), (0, 0, 0, 0), (4, 3, 0, 0), (1, 3, 0, 0), (0, 0, 0, 24), (32, 59, 3, 0), (2, 0, 0, 0), (1, 3, 0, 0), (54, 186, 1, 9), (0, 0, 0, -1), (32, 57, 0, 0), (1, 1, 0, 0), (2, 0, 0, 0), (1, 3, 0, 0), (54, 186, 1, 9), (55, 178, 2, 0), (31, 19, 1, 0), (30, 57, 0, 0), (0, 0, 0, 0), (4, 4, 0, 0), (0, 0, 0, 0), (4, 5, 0, 0), (1, 5, 0, 0), (2, 0, 0, 0), (54, 184, 0, 9), (32, 44, 3, 0), (1, 4, 0, 0), (31, 38, 1, 0), (1, 1, 0, 0), (1, 5, 0, 0), (55, 178, 2, 0), (31, 40, 0, 0), (2, 0, 0, 0), (1, 5, 0, 0), (1, 3, 0, 0), (54, 191, 2, 9), (31, 40, 0, 0), (0, 0, 0, 1), (30, 41, 0, 0), (0, 0, 0, 0), (4, 4, 0, 0), (7, 5, 0, 1), (30, 23, 0, 0), (1, 2, 0, 0), (1, 3, 0, 0), (55, 235, 1, 0), (31, 50, 0, 0), (0, 0, 0, 3), (30, 55, 0, 0), (1, 4, 0, 0), (31, 54, 0, 0), (0, 0, 0, 2), (30, 55, 0, 0), (0, 0, 0, 1), (8, 0, 0, 0), (4, 2, 0, 0), (7, 3, 0, 1), (30, 4, 0, 0), (1, 2, 0, 0), (50, 0, 0, 0)]
def z_i291 : List zJ := [(0, .iconst 0, 1, []), (1, .istore_n 2, 1, []), (2, .iconst 0, 1, []), (3, .istore_n 3, 1, []), (4, .iload_n 3, 1, []), (5, .bipush 24, 2, []), (7, .if_icmp .ge 109, 3, []), (10, .aload_n 0, 1, []), (11, .iload_n 3, 1, []), (12, .invokevirtual 61, 3, [1633, 1635, 39, 110, 1636]), (15, .iconst (-1), 1, []), (16, .if_icmp .eq 94, 3, []), (19, .iload_n 1, 1, []), (20, .aload_n 0, 1, []), (21, .iload_n 3, 1, []), (22, .invokevirtual 61, 3, [1633, 1635, 39, 110, 1636]), (25, .invokestatic 72, 3, [1630, 1631, 110, 1632]), (28, .ifCond .ne 6, 3, []), (31, .goto 79, 3, []), (34, .iconst 0, 1, []), (35, .istore 4, 2, []), (37, .iconst 0, 1, []), (38, .istore 5, 2, []), (40, .iload 5, 2, []), (42, .aload_n 0, 1, []), (43, .invokevirtual 82, 3, [1594, 1596, 33, 110, 1597]), (46, .if_icmp .ge 40, 3, []), (49, .iload 4, 2, []), (51, .ifCond .ne 22, 3, []), (54, .iload_n 1, 1, []), (55, .iload 5, 2, []), (57, .invokestatic 72, 3, [1630, 1631, 110, 1632]), (60, .ifCond .eq 17, 3, []), (63, .aload_n 0, 1, []), (64, .iload 5, 2, []), (66, .iload_n 3, 1, []), (67, .invokevirtual 285, 3, [1817, 1819, 72, 110, 1820]), (70, .ifCond .eq 7, 3, []), (73, .iconst 1, 1, []), (74, .goto 4, 3, []), (77, .iconst 0, 1, []), (78, .istore 4, 2, []), (80, .iinc 5 1, 3, []), (83, .goto (-43), 3, []), (86, .iload_n 2, 1, []), (87, .iload_n 3, 1, []), (88, .invokestatic 282, 3, [1814, 1815, 110, 1816]), (91, .ifCond .eq 7, 3, []), (94, .iconst 3, 1, []), (95, .goto 13, 3, []), (98, .iload 4, 2, []), (100, .ifCond .eq 7, 3, []), (103, .iconst 2, 1, []), (104, .goto 4, 3, []), (107, .iconst 1, 1, []), (108, .iadd, 1, []), (109, .istore_n 2, 1, []), (110, .iinc 3 1, 3, []), (113, .goto (-109), 3, []), (116, .iload_n 2, 1, []), (117, .ireturn, 1, [])]
def z_h291 : List (Nat × Nat × Nat × Nat × Nat × Nat × Nat) := []
def z_m292 : zMi := (RX12, yX12_everybody, cX12_everybody, 1, some .int, [])
def z_c292 : List zI := [(0, 0, 0, 1), (2, 0, 0, 0), (54, 184, 0, 9), (13, 0, 0, 0), (0, 0, 0, 1), (9, 0, 0, 0), (50, 0, 0, 0)]
def z_i292 : List zJ := [(0, .iconst 1, 1, []), (1, .aload_n 0, 1, []), (2, .invokevirtual 82, 3, [1594, 1596, 33, 110, 1597]), (5, .ishl, 1, []), (6, .iconst 1, 1, []), (7, .isub, 1, []), (8, .ireturn, 1, [])]
def z_h292 : List (Nat × Nat × Nat × Nat × Nat × Nat × Nat) := []
def z_m293 : zMi := (RX12, yX12_worth, cX12_worth, 2, some .int, [])
def z_c293 : List zI := [(2, 0, 0, 0), (0, 0, 0, 0), (38, 9, 0, 0), (2, 0, 0, 0), (1, 1, 0, 0), (2, 0, 0, 0), (54, 292, 0, 9), (16, 0, 0, 0), (54, 291, 1, 9), (50, 0, 0, 0)]
def z_i293 : List zJ := [(0, .aload_n 0, 1, []), (1, .iconst 0, 1, []), (2, .putfield 3, 3, [1457]), (5, .aload_n 0, 1, []), (6, .iload_n 1, 1, []), (7, .aload_n 0, 1, []), (8, .invokevirtual 411, 3, [2011, 2013, 94, 110, 2014]), (11, .iand, 1, []), (12, .invokevirtual 414, 3, [2015, 2017, 95, 110, 2018]), (15, .ireturn, 1, [])]
def z_h293 : List (Nat × Nat × Nat × Nat × Nat × Nat × Nat) := []
def z_m294 : zMi := (RX12, yX12_ordersOf, cX12_ordersOf, 3, some .int, [])
def z_c294 : List zI := [(0, 0, 0, 1), (4, 1, 0, 0), (0, 0, 0, 2), (4, 2, 0, 0), (1, 2, 0, 0), (1, 0, 0, 0), (32, 13, 4, 0), (1, 1, 0, 0), (1, 2, 0, 0), (10, 0, 0, 0), (4, 1, 0, 0), (7, 2, 0, 1), (30, 4, 0, 0), (1, 1, 0, 0), (50, 0, 0, 0)]
def z_i294 : List zJ := [(0, .iconst 1, 1, []), (1, .istore_n 1, 1, []), (2, .iconst 2, 1, []), (3, .istore_n 2, 1, []), (4, .iload_n 2, 1, []), (5, .iload_n 0, 1, []), (6, .if_icmp .gt 13, 3, []), (9, .iload_n 1, 1, []), (10, .iload_n 2, 1, []), (11, .imul, 1, []), (12, .istore_n 1, 1, []), (13, .iinc 2 1, 3, []), (16, .goto (-12), 3, []), (19, .iload_n 1, 1, []), (20, .ireturn, 1, [])]
def z_h294 : List (Nat × Nat × Nat × Nat × Nat × Nat × Nat) := []
def z_m295 : zMi := (RX12, yX12_part, cX12_part, 10, some .int, [])
def z_c295 : List zI := [(2, 0, 0, 0), (0, 0, 0, 0), (38, 9, 0, 0), (2, 0, 0, 0), (2, 0, 0, 0), (1, 1, 0, 0), (54, 195, 1, 9), (0, 0, 0, 1), (54, 176, 2, 9), (31, 22, 1, 0), (2, 0, 0, 0), (1, 2, 0, 0), (0, 0, 0, 0), (0, 0, 0, 999), (55, 177, 3, 0), (31, 18, 1, 0), (0, 0, 0, 1), (30, 19, 0, 0), (0, 0, 0, 0), (0, 0, 0, 2), (54, 176, 2, 9), (31, 24, 0, 0), (0, 0, 0, 0), (50, 0, 0, 0), (2, 0, 0, 0), (2, 0, 0, 0), (54, 292, 0, 9), (54, 291, 1, 9), (4, 3, 0, 0), (1, 3, 0, 0), (31, 33, 1, 0), (0, 0, 0, 0), (50, 0, 0, 0), (25, 0, 0, 0), (6, 4, 0, 0), (0, 0, 0, 0), (4, 6, 0, 0), (1, 6, 0, 0), (2, 0, 0, 0), (54, 292, 0, 9), (32, 81, 4, 0), (1, 6, 0, 0), (1, 1, 0, 0), (55, 178, 2, 0), (31, 46, 0, 0), (30, 79, 0, 0), (1, 6, 0, 0), (55, 311, 1, 0), (4, 7, 0, 0), (1, 7, 0, 0), (55, 294, 1, 0), (19, 0, 0, 0), (2, 0, 0, 0), (54, 184, 0, 9), (0, 0, 0, 1), (9, 0, 0, 0), (1, 7, 0, 0), (9, 0, 0, 0), (55, 294, 1, 0), (19, 0, 0, 0), (23, 0, 0, 0), (6, 8, 0, 0), (3, 4, 0, 0), (3, 8, 0, 0), (2, 0, 0, 0), (1, 6, 0, 0), (0, 0, 0, 1), (1, 1, 0, 0), (13, 0, 0, 0), (17, 0, 0, 0), (54, 291, 1, 9), (2, 0, 0, 0), (1, 6, 0, 0), (54, 291, 1, 9), (9, 0, 0, 0), (19, 0, 0, 0), (23, 0, 0, 0), (22, 0, 0, 0), (6, 4, 0, 0), (7, 6, 0, 1), (30, 37, 0, 0), (0, 0, 0, 100), (1, 2, 0, 0), (10, 0, 0, 0), (19, 0, 0, 0), (3, 4, 0, 0), (23, 0, 0, 0), (2, 0, 0, 0), (54, 184, 0, 9), (55, 294, 1, 0), (19, 0, 0, 0), (1, 3, 0, 0), (19, 0, 0, 0), (23, 0, 0, 0), (24, 0, 0, 0), (20, 0, 0, 0), (50, 0, 0, 0)]
def z_i295 : List zJ := [(0, .aload_n 0, 1, []), (1, .iconst 0, 1, []), (2, .putfield 3, 3, [1457]), (5, .aload_n 0, 1, []), (6, .aload_n 0, 1, []), (7, .iload_n 1, 1, []), (8, .invokevirtual 317, 3, [1745, 1747, 57, 110, 1748]), (11, .iconst 1, 1, []), (12, .invokevirtual 270, 3, [1723, 1725, 56, 110, 1726]), (15, .ifCond .ne 27, 3, []), (18, .aload_n 0, 1, []), (19, .iload_n 2, 1, []), (20, .iconst 0, 1, []), (21, .sipush 999, 3, []), (24, .invokestatic 86, 3, [1738, 1739, 110, 1740]), (27, .ifCond .ne 7, 3, []), (30, .iconst 1, 1, []), (31, .goto 4, 3, []), (34, .iconst 0, 1, []), (35, .iconst 2, 1, []), (36, .invokevirtual 270, 3, [1723, 1725, 56, 110, 1726]), (39, .ifCond .eq 5, 3, []), (42, .iconst 0, 1, []), (43, .ireturn, 1, []), (44, .aload_n 0, 1, []), (45, .aload_n 0, 1, []), (46, .invokevirtual 411, 3, [2011, 2013, 94, 110, 2014]), (49, .invokevirtual 414, 3, [2015, 2017, 95, 110, 2018]), (52, .istore_n 3, 1, []), (53, .iload_n 3, 1, []), (54, .ifCond .ne 5, 3, []), (57, .iconst 0, 1, []), (58, .ireturn, 1, []), (59, .lconst 0, 1, []), (60, .lstore 4, 2, []), (62, .iconst 0, 1, []), (63, .istore 6, 2, []), (65, .iload 6, 2, []), (67, .aload_n 0, 1, []), (68, .invokevirtual 411, 3, [2011, 2013, 94, 110, 2014]), (71, .if_icmp .gt 76, 3, []), (74, .iload 6, 2, []), (76, .iload_n 1, 1, []), (77, .invokestatic 72, 3, [1630, 1631, 110, 1632]), (80, .ifCond .eq 6, 3, []), (83, .goto 58, 3, []), (86, .iload 6, 2, []), (88, .invokestatic 301, 3, [1757, 482, 126, 483]), (91, .istore 7, 2, []), (93, .iload 7, 2, []), (95, .invokestatic 417, 3, [2023, 2024, 110, 2025]), (98, .i2l, 1, []), (99, .aload_n 0, 1, []), (100, .invokevirtual 82, 3, [1594, 1596, 33, 110, 1597]), (103, .iconst 1, 1, []), (104, .isub, 1, []), (105, .iload 7, 2, []), (107, .isub, 1, []), (108, .invokestatic 417, 3, [2023, 2024, 110, 2025]), (111, .i2l, 1, []), (112, .lmul, 1, []), (113, .lstore 8, 2, []), (115, .lload 4, 2, []), (117, .lload 8, 2, []), (119, .aload_n 0, 1, []), (120, .iload 6, 2, []), (122, .iconst 1, 1, []), (123, .iload_n 1, 1, []), (124, .ishl, 1, []), (125, .ior, 1, []), (126, .invokevirtual 414, 3, [2015, 2017, 95, 110, 2018]), (129, .aload_n 0, 1, []), (130, .iload 6, 2, []), (132, .invokevirtual 414, 3, [2015, 2017, 95, 110, 2018]), (135, .isub, 1, []), (136, .i2l, 1, []), (137, .lmul, 1, []), (138, .ladd, 1, []), (139, .lstore 4, 2, []), (141, .iinc 6 1, 3, []), (144, .goto (-79), 3, []), (147, .bipush 100, 2, []), (149, .iload_n 2, 1, []), (150, .imul, 1, []), (151, .i2l, 1, []), (152, .lload 4, 2, []), (154, .lmul, 1, []), (155, .aload_n 0, 1, []), (156, .invokevirtual 82, 3, [1594, 1596, 33, 110, 1597]), (159, .invokestatic 417, 3, [2023, 2024, 110, 2025]), (162, .i2l, 1, []), (163, .iload_n 3, 1, []), (164, .i2l, 1, []), (165, .lmul, 1, []), (166, .ldiv, 1, []), (167, .l2i, 1, []), (168, .ireturn, 1, [])]
def z_h295 : List (Nat × Nat × Nat × Nat × Nat × Nat × Nat) := []
def z_m296 : zMi := (RX12, yX12_hasBy, cX12_hasBy, 5, some .int, [])
def z_c296 : List zI := [(1, 3, 0, 0), (1, 4, 0, 0), (32, 5, 4, 0), (0, 0, 0, 0), (30, 22, 0, 0), (2, 0, 0, 0), (1, 1, 0, 0), (1, 2, 0, 0), (54, 191, 2, 9), (31, 12, 0, 0), (0, 0, 0, 30), (30, 13, 0, 0), (0, 0, 0, 15), (2, 0, 0, 0), (37, 9, 1, 0), (0, 0, 0, 12), (39, 0, 0, 0), (1, 3, 0, 0), (0, 0, 0, 1), (8, 0, 0, 0), (10, 0, 0, 0), (9, 0, 0, 0), (50, 0, 0, 0)]
def z_i296 : List zJ := [(0, .iload_n 3, 1, []), (1, .iload 4, 2, []), (3, .if_icmp .gt 7, 3, []), (6, .iconst 0, 1, []), (7, .goto 31, 3, []), (10, .aload_n 0, 1, []), (11, .iload_n 1, 1, []), (12, .iload_n 2, 1, []), (13, .invokevirtual 285, 3, [1817, 1819, 72, 110, 1820]), (16, .ifCond .eq 8, 3, []), (19, .bipush 30, 2, []), (21, .goto 5, 3, []), (24, .bipush 15, 2, []), (26, .aload_n 0, 1, []), (27, .getfield 13, 3, [1458]), (30, .bipush 12, 2, []), (32, .iaload, 1, []), (33, .iload_n 3, 1, []), (34, .iconst 1, 1, []), (35, .iadd, 1, []), (36, .imul, 1, []), (37, .isub, 1, []), (38, .ireturn, 1, [])]
def z_h296 : List (Nat × Nat × Nat × Nat × Nat × Nat × Nat) := []
def z_m297 : zMi := (RX12, yX12_bids, cX12_bids, 9, some .int, [])
def z_c297 : List zI := [(2, 0, 0, 0), (0, 0, 0, 0), (38, 9, 0, 0), (2, 0, 0, 0), (2, 0, 0, 0), (1, 1, 0, 0), (54, 195, 1, 9), (31, 15, 1, 0), (2, 0, 0, 0), (1, 2, 0, 0), (54, 195, 1, 9), (31, 15, 1, 0), (1, 3, 0, 0), (55, 197, 1, 0), (31, 17, 0, 0), (0, 0, 0, 1), (30, 18, 0, 0), (0, 0, 0, 0), (0, 0, 0, 1), (54, 176, 2, 9), (31, 31, 1, 0), (2, 0, 0, 0), (1, 1, 0, 0), (1, 2, 0, 0), (32, 27, 1, 0), (0, 0, 0, 1), (30, 28, 0, 0), (0, 0, 0, 0), (0, 0, 0, 2), (54, 176, 2, 9), (31, 33, 0, 0), (0, 0, 0, 0), (50, 0, 0, 0), (0, 0, 0, 0), (4, 4, 0, 0), (0, 0, 0, 0), (4, 5, 0, 0), (1, 5, 0, 0), (0, 0, 0, 2), (32, 103, 3, 0), (0, 0, 0, 0), (4, 6, 0, 0), (1, 6, 0, 0), (0, 0, 0, 2), (32, 101, 3, 0), (2, 0, 0, 0), (1, 1, 0, 0), (1, 3, 0, 0), (1, 5, 0, 0), (1, 6, 0, 0), (54, 296, 4, 9), (2, 0, 0, 0), (1, 1, 0, 0), (1, 3, 0, 0), (0, 0, 0, 1), (1, 5, 0, 0), (9, 0, 0, 0), (1, 6, 0, 0), (54, 296, 4, 9), (32, 62, 2, 0), (0, 0, 0, 1), (30, 63, 0, 0), (0, 0, 0, 0), (4, 7, 0, 0), (2, 0, 0, 0), (1, 2, 0, 0), (1, 3, 0, 0), (1, 6, 0, 0), (1, 5, 0, 0), (54, 296, 4, 9), (2, 0, 0, 0), (1, 2, 0, 0), (1, 3, 0, 0), (0, 0, 0, 1), (1, 6, 0, 0), (9, 0, 0, 0), (1, 5, 0, 0), (54, 296, 4, 9), (32, 81, 2, 0), (0, 0, 0, 1), (30, 82, 0, 0), (0, 0, 0, 0), (4, 8, 0, 0), (1, 4, 0, 0), (1, 7, 0, 0), (31, 96, 0, 0), (1, 8, 0, 0), (31, 96, 0, 0), (0, 0, 0, 1), (0, 0, 0, 2), (1, 5, 0, 0), (10, 0, 0, 0), (1, 6, 0, 0), (8, 0, 0, 0), (13, 0, 0, 0), (30, 97, 0, 0), (0, 0, 0, 0), (17, 0, 0, 0), (4, 4, 0, 0), (7, 6, 0, 1), (30, 42, 0, 0), (7, 5, 0, 1), (30, 37, 0, 0), (1, 4, 0, 0), (50, 0, 0, 0)]
def z_i297 : List zJ := [(0, .aload_n 0, 1, []), (1, .iconst 0, 1, []), (2, .putfield 3, 3, [1457]), (5, .aload_n 0, 1, []), (6, .aload_n 0, 1, []), (7, .iload_n 1, 1, []), (8, .invokevirtual 317, 3, [1745, 1747, 57, 110, 1748]), (11, .ifCond .ne 18, 3, []), (14, .aload_n 0, 1, []), (15, .iload_n 2, 1, []), (16, .invokevirtual 317, 3, [1745, 1747, 57, 110, 1748]), (19, .ifCond .ne 10, 3, []), (22, .iload_n 3, 1, []), (23, .invokestatic 314, 3, [1735, 1736, 110, 1737]), (26, .ifCond .eq 7, 3, []), (29, .iconst 1, 1, []), (30, .goto 4, 3, []), (33, .iconst 0, 1, []), (34, .iconst 1, 1, []), (35, .invokevirtual 270, 3, [1723, 1725, 56, 110, 1726]), (38, .ifCond .ne 21, 3, []), (41, .aload_n 0, 1, []), (42, .iload_n 1, 1, []), (43, .iload_n 2, 1, []), (44, .if_icmp .ne 7, 3, []), (47, .iconst 1, 1, []), (48, .goto 4, 3, []), (51, .iconst 0, 1, []), (52, .iconst 2, 1, []), (53, .invokevirtual 270, 3, [1723, 1725, 56, 110, 1726]), (56, .ifCond .eq 5, 3, []), (59, .iconst 0, 1, []), (60, .ireturn, 1, []), (61, .iconst 0, 1, []), (62, .istore 4, 2, []), (64, .iconst 0, 1, []), (65, .istore 5, 2, []), (67, .iload 5, 2, []), (69, .iconst 2, 1, []), (70, .if_icmp .ge 116, 3, []), (73, .iconst 0, 1, []), (74, .istore 6, 2, []), (76, .iload 6, 2, []), (78, .iconst 2, 1, []), (79, .if_icmp .ge 101, 3, []), (82, .aload_n 0, 1, []), (83, .iload_n 1, 1, []), (84, .iload_n 3, 1, []), (85, .iload 5, 2, []), (87, .iload 6, 2, []), (89, .invokevirtual 420, 3, [2030, 2032, 96, 110, 2033]), (92, .aload_n 0, 1, []), (93, .iload_n 1, 1, []), (94, .iload_n 3, 1, []), (95, .iconst 1, 1, []), (96, .iload 5, 2, []), (98, .isub, 1, []), (99, .iload 6, 2, []), (101, .invokevirtual 420, 3, [2030, 2032, 96, 110, 2033]), (104, .if_icmp .lt 7, 3, []), (107, .iconst 1, 1, []), (108, .goto 4, 3, []), (111, .iconst 0, 1, []), (112, .istore 7, 2, []), (114, .aload_n 0, 1, []), (115, .iload_n 2, 1, []), (116, .iload_n 3, 1, []), (117, .iload 6, 2, []), (119, .iload 5, 2, []), (121, .invokevirtual 420, 3, [2030, 2032, 96, 110, 2033]), (124, .aload_n 0, 1, []), (125, .iload_n 2, 1, []), (126, .iload_n 3, 1, []), (127, .iconst 1, 1, []), (128, .iload 6, 2, []), (130, .isub, 1, []), (131, .iload 5, 2, []), (133, .invokevirtual 420, 3, [2030, 2032, 96, 110, 2033]), (136, .if_icmp .lt 7, 3, []), (139, .iconst 1, 1, []), (140, .goto 4, 3, []), (143, .iconst 0, 1, []), (144, .istore 8, 2, []), (146, .iload 4, 2, []), (148, .iload 7, 2, []), (150, .ifCond .eq 20, 3, []), (153, .iload 8, 2, []), (155, .ifCond .eq 15, 3, []), (158, .iconst 1, 1, []), (159, .iconst 2, 1, []), (160, .iload 5, 2, []), (162, .imul, 1, []), (163, .iload 6, 2, []), (165, .iadd, 1, []), (166, .ishl, 1, []), (167, .goto 4, 3, []), (170, .iconst 0, 1, []), (171, .ior, 1, []), (172, .istore 4, 2, []), (174, .iinc 6 1, 3, []), (177, .goto (-101), 3, []), (180, .iinc 5 1, 3, []), (183, .goto (-116), 3, []), (186, .iload 4, 2, []), (188, .ireturn, 1, [])]
def z_h297 : List (Nat × Nat × Nat × Nat × Nat × Nat × Nat) := []
def z_m298 : zMi := (RX12, yX12_familiesOf, cX12_familiesOf, 4, some .int, [])
def z_c298 : List zI := [(0, 0, 0, 0), (4, 2, 0, 0), (0, 0, 0, 0), (4, 3, 0, 0), (1, 3, 0, 0), (2, 0, 0, 0), (54, 184, 0, 9), (32, 24, 3, 0), (1, 2, 0, 0), (2, 0, 0, 0), (1, 3, 0, 0), (0, 0, 0, 1), (54, 190, 2, 9), (1, 1, 0, 0), (32, 19, 1, 0), (0, 0, 0, 1), (1, 3, 0, 0), (13, 0, 0, 0), (30, 20, 0, 0), (0, 0, 0, 0), (17, 0, 0, 0), (4, 2, 0, 0), (7, 3, 0, 1), (30, 4, 0, 0), (1, 2, 0, 0), (50, 0, 0, 0)]
def z_i298 : List zJ := [(0, .iconst 0, 1, []), (1, .istore_n 2, 1, []), (2, .iconst 0, 1, []), (3, .istore_n 3, 1, []), (4, .iload_n 3, 1, []), (5, .aload_n 0, 1, []), (6, .invokevirtual 82, 3, [1594, 1596, 33, 110, 1597]), (9, .if_icmp .ge 29, 3, []), (12, .iload_n 2, 1, []), (13, .aload_n 0, 1, []), (14, .iload_n 3, 1, []), (15, .iconst 1, 1, []), (16, .invokevirtual 69, 3, [1770, 1772, 62, 110, 1773]), (19, .iload_n 1, 1, []), (20, .if_icmp .ne 9, 3, []), (23, .iconst 1, 1, []), (24, .iload_n 3, 1, []), (25, .ishl, 1, []), (26, .goto 4, 3, []), (29, .iconst 0, 1, []), (30, .ior, 1, []), (31, .istore_n 2, 1, []), (32, .iinc 3 1, 3, []), (35, .goto (-31), 3, []), (38, .iload_n 2, 1, []), (39, .ireturn, 1, [])]
def z_h298 : List (Nat × Nat × Nat × Nat × Nat × Nat × Nat) := []
def z_m299 : zMi := (RX12, yX12_who, cX12_who, 6, some .int, [])
def z_c299 : List zI := [(2, 0, 0, 0), (54, 210, 0, 9), (2, 0, 0, 0), (37, 9, 11, 0), (0, 0, 0, 20), (32, 8, 4, 0), (0, 0, 0, 1), (30, 9, 0, 0), (0, 0, 0, 0), (4, 2, 0, 0), (0, 0, 0, 0), (4, 3, 0, 0), (1, 3, 0, 0), (2, 0, 0, 0), (37, 9, 11, 0), (32, 28, 3, 0), (1, 2, 0, 0), (31, 28, 0, 0), (2, 0, 0, 0), (37, 9, 8, 0), (1, 3, 0, 0), (41, 0, 0, 0), (0, 0, 0, 0), (0, 0, 0, 9), (55, 177, 3, 0), (4, 2, 0, 0), (7, 3, 0, 1), (30, 12, 0, 0), (2, 0, 0, 0), (1, 2, 0, 0), (31, 33, 1, 0), (0, 0, 0, 1), (30, 34, 0, 0), (0, 0, 0, 0), (0, 0, 0, 1), (54, 176, 2, 9), (31, 39, 0, 0), (0, 0, 0, 0), (50, 0, 0, 0), (2, 0, 0, 0), (54, 292, 0, 9), (4, 3, 0, 0), (0, 0, 0, 1), (4, 4, 0, 0), (0, 0, 0, 0), (4, 5, 0, 0), (1, 5, 0, 0), (2, 0, 0, 0), (37, 9, 11, 0), (32, 73, 3, 0), (1, 3, 0, 0), (2, 0, 0, 0), (2, 0, 0, 0), (37, 9, 8, 0), (1, 5, 0, 0), (41, 0, 0, 0), (54, 298, 1, 9), (16, 0, 0, 0), (4, 3, 0, 0), (0, 0, 0, 10000), (1, 4, 0, 0), (67, 0, 0, 0), (2, 0, 0, 0), (2, 0, 0, 0), (37, 9, 8, 0), (1, 5, 0, 0), (41, 0, 0, 0), (54, 298, 1, 9), (55, 311, 1, 0), (10, 0, 0, 0), (4, 4, 0, 0), (7, 5, 0, 1), (30, 46, 0, 0), (1, 1, 0, 0), (31, 79, 0, 0), (0, 0, 0, 9999), (1, 4, 0, 0), (67, 0, 0, 0), (30, 80, 0, 0), (1, 3, 0, 0), (50, 0, 0, 0)]
def z_i299 : List zJ := [(0, .aload_n 0, 1, []), (1, .invokevirtual 259, 3, [1559, 1561, 25, 110, 1562]), (4, .aload_n 0, 1, []), (5, .getfield 100, 3, [1468]), (8, .bipush 20, 2, []), (10, .if_icmp .gt 7, 3, []), (13, .iconst 1, 1, []), (14, .goto 4, 3, []), (17, .iconst 0, 1, []), (18, .istore_n 2, 1, []), (19, .iconst 0, 1, []), (20, .istore_n 3, 1, []), (21, .iload_n 3, 1, []), (22, .aload_n 0, 1, []), (23, .getfield 100, 3, [1468]), (26, .if_icmp .ge 26, 3, []), (29, .iload_n 2, 1, []), (30, .ifCond .eq 22, 3, []), (33, .aload_n 0, 1, []), (34, .getfield 29, 3, [1465]), (37, .iload_n 3, 1, []), (38, .baload, 1, []), (39, .iconst 0, 1, []), (40, .bipush 9, 2, []), (42, .invokestatic 86, 3, [1738, 1739, 110, 1740]), (45, .istore_n 2, 1, []), (46, .iinc 3 1, 3, []), (49, .goto (-28), 3, []), (52, .aload_n 0, 1, []), (53, .iload_n 2, 1, []), (54, .ifCond .ne 7, 3, []), (57, .iconst 1, 1, []), (58, .goto 4, 3, []), (61, .iconst 0, 1, []), (62, .iconst 1, 1, []), (63, .invokevirtual 270, 3, [1723, 1725, 56, 110, 1726]), (66, .ifCond .eq 5, 3, []), (69, .iconst 0, 1, []), (70, .ireturn, 1, []), (71, .aload_n 0, 1, []), (72, .invokevirtual 411, 3, [2011, 2013, 94, 110, 2014]), (75, .istore_n 3, 1, []), (76, .iconst 1, 1, []), (77, .istore 4, 2, []), (79, .iconst 0, 1, []), (80, .istore 5, 2, []), (82, .iload 5, 2, []), (84, .aload_n 0, 1, []), (85, .getfield 100, 3, [1468]), (88, .if_icmp .ge 48, 3, []), (91, .iload_n 3, 1, []), (92, .aload_n 0, 1, []), (93, .aload_n 0, 1, []), (94, .getfield 29, 3, [1465]), (97, .iload 5, 2, []), (99, .baload, 1, []), (100, .invokevirtual 423, 3, [2038, 2040, 97, 110, 2041]), (103, .iand, 1, []), (104, .istore_n 3, 1, []), (105, .sipush 10000, 3, []), (108, .iload 4, 2, []), (110, .invokestatic 347, 3, [1845]), (113, .aload_n 0, 1, []), (114, .aload_n 0, 1, []), (115, .getfield 29, 3, [1465]), (118, .iload 5, 2, []), (120, .baload, 1, []), (121, .invokevirtual 423, 3, [2038, 2040, 97, 110, 2041]), (124, .invokestatic 301, 3, [1757, 482, 126, 483]), (127, .imul, 1, []), (128, .istore 4, 2, []), (130, .iinc 5 1, 3, []), (133, .goto (-51), 3, []), (136, .iload_n 1, 1, []), (137, .ifCond .eq 14, 3, []), (140, .sipush 9999, 3, []), (143, .iload 4, 2, []), (145, .invokestatic 347, 3, [1845]), (148, .goto 4, 3, []), (151, .iload_n 3, 1, []), (152, .ireturn, 1, [])]
def z_h299 : List (Nat × Nat × Nat × Nat × Nat × Nat × Nat) := []
def z_m300 : zMi := (RX12, yX12_common, cX12_common, 3, some .int, [])
def z_c300 : List zI := [(2, 0, 0, 0), (0, 0, 0, 0), (38, 9, 0, 0), (0, 0, 0, 0), (4, 1, 0, 0), (0, 0, 0, 1), (4, 2, 0, 0), (1, 2, 0, 0), (0, 0, 0, 9), (32, 25, 4, 0), (2, 0, 0, 0), (1, 2, 0, 0), (54, 298, 1, 9), (55, 311, 1, 0), (2, 0, 0, 0), (1, 1, 0, 0), (54, 298, 1, 9), (55, 311, 1, 0), (32, 21, 5, 0), (1, 2, 0, 0), (30, 22, 0, 0), (1, 1, 0, 0), (4, 1, 0, 0), (7, 2, 0, 1), (30, 7, 0, 0), (1, 1, 0, 0), (50, 0, 0, 0)]
def z_i300 : List zJ := [(0, .aload_n 0, 1, []), (1, .iconst 0, 1, []), (2, .putfield 3, 3, [1457]), (5, .iconst 0, 1, []), (6, .istore_n 1, 1, []), (7, .iconst 1, 1, []), (8, .istore_n 2, 1, []), (9, .iload_n 2, 1, []), (10, .bipush 9, 2, []), (12, .if_icmp .gt 34, 3, []), (15, .aload_n 0, 1, []), (16, .iload_n 2, 1, []), (17, .invokevirtual 423, 3, [2038, 2040, 97, 110, 2041]), (20, .invokestatic 301, 3, [1757, 482, 126, 483]), (23, .aload_n 0, 1, []), (24, .iload_n 1, 1, []), (25, .invokevirtual 423, 3, [2038, 2040, 97, 110, 2041]), (28, .invokestatic 301, 3, [1757, 482, 126, 483]), (31, .if_icmp .le 7, 3, []), (34, .iload_n 2, 1, []), (35, .goto 4, 3, []), (38, .iload_n 1, 1, []), (39, .istore_n 1, 1, []), (40, .iinc 2 1, 3, []), (43, .goto (-34), 3, []), (46, .iload_n 1, 1, []), (47, .ireturn, 1, [])]
def z_h300 : List (Nat × Nat × Nat × Nat × Nat × Nat × Nat) := []
def z_m301 : zMi := (RX12, yX12_rich, cX12_rich, 5, some .int, [])
def z_c301 : List zI := [(2, 0, 0, 0), (0, 0, 0, 0), (38, 9, 0, 0), (0, 0, 0, -1), (4, 1, 0, 0), (0, 0, 0, -1), (4, 2, 0, 0), (0, 0, 0, 0), (4, 3, 0, 0), (1, 3, 0, 0), (2, 0, 0, 0), (54, 184, 0, 9), (32, 40, 3, 0), (2, 0, 0, 0), (1, 3, 0, 0), (0, 0, 0, 0), (54, 190, 2, 9), (2, 0, 0, 0), (37, 9, 1, 0), (0, 0, 0, 12), (39, 0, 0, 0), (2, 0, 0, 0), (1, 3, 0, 0), (54, 243, 1, 9), (10, 0, 0, 0), (8, 0, 0, 0), (4, 4, 0, 0), (1, 4, 0, 0), (1, 2, 0, 0), (32, 32, 5, 0), (1, 3, 0, 0), (30, 33, 0, 0), (1, 1, 0, 0), (4, 1, 0, 0), (1, 2, 0, 0), (1, 4, 0, 0), (68, 0, 0, 0), (4, 2, 0, 0), (7, 3, 0, 1), (30, 9, 0, 0), (1, 1, 0, 0), (50, 0, 0, 0)]
def z_i301 : List zJ := [(0, .aload_n 0, 1, []), (1, .iconst 0, 1, []), (2, .putfield 3, 3, [1457]), (5, .iconst (-1), 1, []), (6, .istore_n 1, 1, []), (7, .iconst (-1), 1, []), (8, .istore_n 2, 1, []), (9, .iconst 0, 1, []), (10, .istore_n 3, 1, []), (11, .iload_n 3, 1, []), (12, .aload_n 0, 1, []), (13, .invokevirtual 82, 3, [1594, 1596, 33, 110, 1597]), (16, .if_icmp .ge 50, 3, []), (19, .aload_n 0, 1, []), (20, .iload_n 3, 1, []), (21, .iconst 0, 1, []), (22, .invokevirtual 69, 3, [1770, 1772, 62, 110, 1773]), (25, .aload_n 0, 1, []), (26, .getfield 13, 3, [1458]), (29, .bipush 12, 2, []), (31, .iaload, 1, []), (32, .aload_n 0, 1, []), (33, .iload_n 3, 1, []), (34, .invokevirtual 320, 3, [1753, 1755, 59, 110, 1756]), (37, .imul, 1, []), (38, .iadd, 1, []), (39, .istore 4, 2, []), (41, .iload 4, 2, []), (43, .iload_n 2, 1, []), (44, .if_icmp .le 7, 3, []), (47, .iload_n 3, 1, []), (48, .goto 4, 3, []), (51, .iload_n 1, 1, []), (52, .istore_n 1, 1, []), (53, .iload_n 2, 1, []), (54, .iload 4, 2, []), (56, .invokestatic 309, 3, [1765]), (59, .istore_n 2, 1, []), (60, .iinc 3 1, 3, []), (63, .goto (-52), 3, []), (66, .iload_n 1, 1, []), (67, .ireturn, 1, [])]
def z_h301 : List (Nat × Nat × Nat × Nat × Nat × Nat × Nat) := []
def z_m302 : zMi := (RX12, yX12_cramped, cX12_cramped, 3, some .int, [])
def z_c302 : List zI := [(2, 0, 0, 0), (0, 0, 0, 0), (38, 9, 0, 0), (0, 0, 0, 0), (4, 1, 0, 0), (0, 0, 0, 0), (4, 2, 0, 0), (1, 2, 0, 0), (2, 0, 0, 0), (54, 185, 0, 9), (32, 33, 3, 0), (1, 1, 0, 0), (2, 0, 0, 0), (1, 2, 0, 0), (54, 194, 1, 9), (31, 28, 0, 0), (2, 0, 0, 0), (1, 2, 0, 0), (0, 0, 0, 0), (54, 193, 2, 9), (2, 0, 0, 0), (54, 188, 0, 9), (32, 28, 0, 0), (2, 0, 0, 0), (1, 2, 0, 0), (0, 0, 0, 1), (54, 193, 2, 9), (30, 29, 0, 0), (0, 0, 0, 0), (8, 0, 0, 0), (4, 1, 0, 0), (7, 2, 0, 1), (30, 7, 0, 0), (1, 1, 0, 0), (50, 0, 0, 0)]
def z_i302 : List zJ := [(0, .aload_n 0, 1, []), (1, .iconst 0, 1, []), (2, .putfield 3, 3, [1457]), (5, .iconst 0, 1, []), (6, .istore_n 1, 1, []), (7, .iconst 0, 1, []), (8, .istore_n 2, 1, []), (9, .iload_n 2, 1, []), (10, .aload_n 0, 1, []), (11, .invokevirtual 90, 3, [1655, 1657, 44, 110, 1658]), (14, .if_icmp .ge 43, 3, []), (17, .iload_n 1, 1, []), (18, .aload_n 0, 1, []), (19, .iload_n 2, 1, []), (20, .invokevirtual 273, 3, [1802, 1804, 69, 110, 1805]), (23, .ifCond .eq 25, 3, []), (26, .aload_n 0, 1, []), (27, .iload_n 2, 1, []), (28, .iconst 0, 1, []), (29, .invokevirtual 79, 3, [1806, 1808, 70, 110, 1809]), (32, .aload_n 0, 1, []), (33, .invokevirtual 353, 3, [1866, 1868, 78, 110, 1869]), (36, .if_icmp .eq 12, 3, []), (39, .aload_n 0, 1, []), (40, .iload_n 2, 1, []), (41, .iconst 1, 1, []), (42, .invokevirtual 79, 3, [1806, 1808, 70, 110, 1809]), (45, .goto 4, 3, []), (48, .iconst 0, 1, []), (49, .iadd, 1, []), (50, .istore_n 1, 1, []), (51, .iinc 2 1, 3, []), (54, .goto (-45), 3, []), (57, .iload_n 1, 1, []), (58, .ireturn, 1, [])]
def z_h302 : List (Nat × Nat × Nat × Nat × Nat × Nat × Nat) := []
def z_m303 : zMi := (RX12, yX12_pursesOfAll, cX12_pursesOfAll, 3, some .int, [])
def z_c303 : List zI := [(0, 0, 0, 0), (4, 1, 0, 0), (0, 0, 0, 0), (4, 2, 0, 0), (1, 2, 0, 0), (2, 0, 0, 0), (54, 184, 0, 9), (32, 17, 3, 0), (1, 1, 0, 0), (2, 0, 0, 0), (1, 2, 0, 0), (0, 0, 0, 0), (54, 190, 2, 9), (8, 0, 0, 0), (4, 1, 0, 0), (7, 2, 0, 1), (30, 4, 0, 0), (1, 1, 0, 0), (50, 0, 0, 0)]
def z_i303 : List zJ := [(0, .iconst 0, 1, []), (1, .istore_n 1, 1, []), (2, .iconst 0, 1, []), (3, .istore_n 2, 1, []), (4, .iload_n 2, 1, []), (5, .aload_n 0, 1, []), (6, .invokevirtual 82, 3, [1594, 1596, 33, 110, 1597]), (9, .if_icmp .ge 18, 3, []), (12, .iload_n 1, 1, []), (13, .aload_n 0, 1, []), (14, .iload_n 2, 1, []), (15, .iconst 0, 1, []), (16, .invokevirtual 69, 3, [1770, 1772, 62, 110, 1773]), (19, .iadd, 1, []), (20, .istore_n 1, 1, []), (21, .iinc 2 1, 3, []), (24, .goto (-20), 3, []), (27, .iload_n 1, 1, []), (28, .ireturn, 1, [])]
def z_h303 : List (Nat × Nat × Nat × Nat × Nat × Nat × Nat) := []
def z_m304 : zMi := (RX12, yX12_trial, cX12_trial, 4, some .int, [])
def z_c304 : List zI := [(2, 0, 0, 0), (0, 0, 0, 0), (38, 9, 0, 0), (2, 0, 0, 0), (1, 1, 0, 0), (0, 0, 0, 0), (0, 0, 0, 200), (55, 177, 3, 0), (31, 11, 1, 0), (0, 0, 0, 1), (30, 12, 0, 0), (0, 0, 0, 0), (0, 0, 0, 1), (54, 176, 2, 9), (31, 17, 0, 0), (0, 0, 0, 0), (50, 0, 0, 0), (2, 0, 0, 0), (54, 266, 0, 9), (2, 0, 0, 0), (1, 1, 0, 0), (0, 0, 0, 0), (54, 268, 2, 9), (29, 0, 0, 0), (1, 2, 0, 0), (31, 29, 0, 0), (2, 0, 0, 0), (54, 303, 0, 9), (30, 33, 0, 0), (2, 0, 0, 0), (37, 9, 1, 0), (0, 0, 0, 8), (39, 0, 0, 0), (4, 3, 0, 0), (2, 0, 0, 0), (54, 267, 0, 9), (1, 3, 0, 0), (50, 0, 0, 0)]
def z_i304 : List zJ := [(0, .aload_n 0, 1, []), (1, .iconst 0, 1, []), (2, .putfield 3, 3, [1457]), (5, .aload_n 0, 1, []), (6, .iload_n 1, 1, []), (7, .iconst 0, 1, []), (8, .sipush 200, 3, []), (11, .invokestatic 86, 3, [1738, 1739, 110, 1740]), (14, .ifCond .ne 7, 3, []), (17, .iconst 1, 1, []), (18, .goto 4, 3, []), (21, .iconst 0, 1, []), (22, .iconst 1, 1, []), (23, .invokevirtual 270, 3, [1723, 1725, 56, 110, 1726]), (26, .ifCond .eq 5, 3, []), (29, .iconst 0, 1, []), (30, .ireturn, 1, []), (31, .aload_n 0, 1, []), (32, .invokevirtual 380, 3, [1919, 1921, 86, 110, 1922]), (35, .aload_n 0, 1, []), (36, .iload_n 1, 1, []), (37, .iconst 0, 1, []), (38, .invokevirtual 376, 3, [1890, 1892, 80, 110, 1893]), (41, .pop, 1, []), (42, .iload_n 2, 1, []), (43, .ifCond .eq 10, 3, []), (46, .aload_n 0, 1, []), (47, .invokevirtual 426, 3, [2058, 2060, 98, 110, 2061]), (50, .goto 10, 3, []), (53, .aload_n 0, 1, []), (54, .getfield 13, 3, [1458]), (57, .bipush 8, 2, []), (59, .iaload, 1, []), (60, .istore_n 3, 1, []), (61, .aload_n 0, 1, []), (62, .invokevirtual 383, 3, [1923, 1925, 87, 110, 1926]), (65, .iload_n 3, 1, []), (66, .ireturn, 1, [])]
def z_h304 : List (Nat × Nat × Nat × Nat × Nat × Nat × Nat) := []
def z_m305 : zMi := (RX12, yX12_span, cX12_span, 6, some .int, [])
def z_c305 : List zI := [(2, 0, 0, 0), (0, 0, 0, 0), (38, 9, 0, 0), (2, 0, 0, 0), (1, 1, 0, 0), (0, 0, 0, 0), (0, 0, 0, 200), (55, 177, 3, 0), (31, 11, 1, 0), (0, 0, 0, 1), (30, 12, 0, 0), (0, 0, 0, 0), (0, 0, 0, 1), (54, 176, 2, 9), (31, 17, 0, 0), (0, 0, 0, 0), (50, 0, 0, 0), (2, 0, 0, 0), (54, 266, 0, 9), (0, 0, 0, -1), (4, 3, 0, 0), (0, 0, 0, 1), (4, 4, 0, 0), (1, 4, 0, 0), (0, 0, 0, 6), (32, 59, 4, 0), (2, 0, 0, 0), (37, 9, 1, 0), (0, 0, 0, 15), (1, 4, 0, 0), (40, 0, 0, 0), (2, 0, 0, 0), (1, 1, 0, 0), (0, 0, 0, 0), (54, 268, 2, 9), (29, 0, 0, 0), (2, 0, 0, 0), (37, 9, 1, 0), (0, 0, 0, 8), (39, 0, 0, 0), (4, 5, 0, 0), (2, 0, 0, 0), (54, 267, 0, 9), (1, 3, 0, 0), (31, 47, 3, 0), (1, 5, 0, 0), (30, 56, 0, 0), (1, 2, 0, 0), (31, 53, 0, 0), (1, 3, 0, 0), (1, 5, 0, 0), (68, 0, 0, 0), (30, 56, 0, 0), (1, 3, 0, 0), (1, 5, 0, 0), (67, 0, 0, 0), (4, 3, 0, 0), (7, 4, 0, 1), (30, 23, 0, 0), (1, 3, 0, 0), (50, 0, 0, 0)]
def z_i305 : List zJ := [(0, .aload_n 0, 1, []), (1, .iconst 0, 1, []), (2, .putfield 3, 3, [1457]), (5, .aload_n 0, 1, []), (6, .iload_n 1, 1, []), (7, .iconst 0, 1, []), (8, .sipush 200, 3, []), (11, .invokestatic 86, 3, [1738, 1739, 110, 1740]), (14, .ifCond .ne 7, 3, []), (17, .iconst 1, 1, []), (18, .goto 4, 3, []), (21, .iconst 0, 1, []), (22, .iconst 1, 1, []), (23, .invokevirtual 270, 3, [1723, 1725, 56, 110, 1726]), (26, .ifCond .eq 5, 3, []), (29, .iconst 0, 1, []), (30, .ireturn, 1, []), (31, .aload_n 0, 1, []), (32, .invokevirtual 380, 3, [1919, 1921, 86, 110, 1922]), (35, .iconst (-1), 1, []), (36, .istore_n 3, 1, []), (37, .iconst 1, 1, []), (38, .istore 4, 2, []), (40, .iload 4, 2, []), (42, .bipush 6, 2, []), (44, .if_icmp .gt 67, 3, []), (47, .aload_n 0, 1, []), (48, .getfield 13, 3, [1458]), (51, .bipush 15, 2, []), (53, .iload 4, 2, []), (55, .iastore, 1, []), (56, .aload_n 0, 1, []), (57, .iload_n 1, 1, []), (58, .iconst 0, 1, []), (59, .invokevirtual 376, 3, [1890, 1892, 80, 110, 1893]), (62, .pop, 1, []), (63, .aload_n 0, 1, []), (64, .getfield 13, 3, [1458]), (67, .bipush 8, 2, []), (69, .iaload, 1, []), (70, .istore 5, 2, []), (72, .aload_n 0, 1, []), (73, .invokevirtual 383, 3, [1923, 1925, 87, 110, 1926]), (76, .iload_n 3, 1, []), (77, .ifCond .ge 8, 3, []), (80, .iload 5, 2, []), (82, .goto 22, 3, []), (85, .iload_n 2, 1, []), (86, .ifCond .eq 12, 3, []), (89, .iload_n 3, 1, []), (90, .iload 5, 2, []), (92, .invokestatic 309, 3, [1765]), (95, .goto 9, 3, []), (98, .iload_n 3, 1, []), (99, .iload 5, 2, []), (101, .invokestatic 347, 3, [1845]), (104, .istore_n 3, 1, []), (105, .iinc 4 1, 3, []), (108, .goto (-68), 3, []), (111, .iload_n 3, 1, []), (112, .ireturn, 1, [])]
def z_h305 : List (Nat × Nat × Nat × Nat × Nat × Nat × Nat) := []
def z_m306 : zMi := (RX12, yX12_ofLog, cX12_ofLog, 3, some .int, [])
def z_c306 : List zI := [(2, 0, 0, 0), (37, 9, 1, 0), (0, 0, 0, 88), (0, 0, 0, 5), (1, 1, 0, 0), (10, 0, 0, 0), (8, 0, 0, 0), (1, 2, 0, 0), (8, 0, 0, 0), (39, 0, 0, 0), (50, 0, 0, 0)]
def z_i306 : List zJ := [(0, .aload_n 0, 1, []), (1, .getfield 13, 3, [1458]), (4, .bipush 88, 2, []), (6, .iconst 5, 1, []), (7, .iload_n 1, 1, []), (8, .imul, 1, []), (9, .iadd, 1, []), (10, .iload_n 2, 1, []), (11, .iadd, 1, []), (12, .iaload, 1, []), (13, .ireturn, 1, [])]
def z_h306 : List (Nat × Nat × Nat × Nat × Nat × Nat × Nat) := []
def z_m307 : zMi := (RX12, yX12_led, cX12_led, 6, some .int, [])
def z_c307 : List zI := [(2, 0, 0, 0), (0, 0, 0, 0), (38, 9, 0, 0), (2, 0, 0, 0), (2, 0, 0, 0), (1, 1, 0, 0), (54, 195, 1, 9), (0, 0, 0, 1), (54, 176, 2, 9), (31, 12, 0, 0), (0, 0, 0, 0), (50, 0, 0, 0), (0, 0, 0, 0), (4, 3, 0, 0), (0, 0, 0, -1), (4, 4, 0, 0), (2, 0, 0, 0), (37, 9, 1, 0), (0, 0, 0, 14), (39, 0, 0, 0), (0, 0, 0, 1), (9, 0, 0, 0), (4, 5, 0, 0), (1, 5, 0, 0), (31, 40, 2, 0), (2, 0, 0, 0), (1, 5, 0, 0), (0, 0, 0, 2), (54, 306, 2, 9), (1, 1, 0, 0), (32, 32, 0, 0), (30, 38, 0, 0), (7, 3, 0, 1), (2, 0, 0, 0), (1, 5, 0, 0), (0, 0, 0, 0), (54, 306, 2, 9), (4, 4, 0, 0), (7, 5, 0, -1), (30, 23, 0, 0), (1, 2, 0, 0), (31, 44, 0, 0), (1, 4, 0, 0), (30, 45, 0, 0), (1, 3, 0, 0), (50, 0, 0, 0)]
def z_i307 : List zJ := [(0, .aload_n 0, 1, []), (1, .iconst 0, 1, []), (2, .putfield 3, 3, [1457]), (5, .aload_n 0, 1, []), (6, .aload_n 0, 1, []), (7, .iload_n 1, 1, []), (8, .invokevirtual 317, 3, [1745, 1747, 57, 110, 1748]), (11, .iconst 1, 1, []), (12, .invokevirtual 270, 3, [1723, 1725, 56, 110, 1726]), (15, .ifCond .eq 5, 3, []), (18, .iconst 0, 1, []), (19, .ireturn, 1, []), (20, .iconst 0, 1, []), (21, .istore_n 3, 1, []), (22, .iconst (-1), 1, []), (23, .istore 4, 2, []), (25, .aload_n 0, 1, []), (26, .getfield 13, 3, [1458]), (29, .bipush 14, 2, []), (31, .iaload, 1, []), (32, .iconst 1, 1, []), (33, .isub, 1, []), (34, .istore 5, 2, []), (36, .iload 5, 2, []), (38, .ifCond .lt 35, 3, []), (41, .aload_n 0, 1, []), (42, .iload 5, 2, []), (44, .iconst 2, 1, []), (45, .invokevirtual 429, 3, [2070, 2072, 99, 110, 2073]), (48, .iload_n 1, 1, []), (49, .if_icmp .eq 6, 3, []), (52, .goto 15, 3, []), (55, .iinc 3 1, 3, []), (58, .aload_n 0, 1, []), (59, .iload 5, 2, []), (61, .iconst 0, 1, []), (62, .invokevirtual 429, 3, [2070, 2072, 99, 110, 2073]), (65, .istore 4, 2, []), (67, .iinc 5 (-1), 3, []), (70, .goto (-34), 3, []), (73, .iload_n 2, 1, []), (74, .ifCond .eq 8, 3, []), (77, .iload 4, 2, []), (79, .goto 4, 3, []), (82, .iload_n 3, 1, []), (83, .ireturn, 1, [])]
def z_h307 : List (Nat × Nat × Nat × Nat × Nat × Nat × Nat) := []
def z_m308 : zMi := (RX12, yX12_log, cX12_log, 3, some .int, [])
def z_c308 : List zI := [(2, 0, 0, 0), (0, 0, 0, 0), (38, 9, 0, 0), (2, 0, 0, 0), (1, 2, 0, 0), (0, 0, 0, 0), (0, 0, 0, 4), (55, 177, 3, 0), (31, 11, 1, 0), (0, 0, 0, 1), (30, 12, 0, 0), (0, 0, 0, 0), (0, 0, 0, 1), (54, 176, 2, 9), (31, 17, 0, 0), (0, 0, 0, 0), (50, 0, 0, 0), (1, 1, 0, 0), (0, 0, 0, 0), (2, 0, 0, 0), (37, 9, 1, 0), (0, 0, 0, 14), (39, 0, 0, 0), (0, 0, 0, 1), (9, 0, 0, 0), (55, 177, 3, 0), (31, 32, 0, 0), (2, 0, 0, 0), (1, 1, 0, 0), (1, 2, 0, 0), (54, 306, 2, 9), (30, 33, 0, 0), (0, 0, 0, -1), (50, 0, 0, 0)]
def z_i308 : List zJ := [(0, .aload_n 0, 1, []), (1, .iconst 0, 1, []), (2, .putfield 3, 3, [1457]), (5, .aload_n 0, 1, []), (6, .iload_n 2, 1, []), (7, .iconst 0, 1, []), (8, .iconst 4, 1, []), (9, .invokestatic 86, 3, [1738, 1739, 110, 1740]), (12, .ifCond .ne 7, 3, []), (15, .iconst 1, 1, []), (16, .goto 4, 3, []), (19, .iconst 0, 1, []), (20, .iconst 1, 1, []), (21, .invokevirtual 270, 3, [1723, 1725, 56, 110, 1726]), (24, .ifCond .eq 5, 3, []), (27, .iconst 0, 1, []), (28, .ireturn, 1, []), (29, .iload_n 1, 1, []), (30, .iconst 0, 1, []), (31, .aload_n 0, 1, []), (32, .getfield 13, 3, [1458]), (35, .bipush 14, 2, []), (37, .iaload, 1, []), (38, .iconst 1, 1, []), (39, .isub, 1, []), (40, .invokestatic 86, 3, [1738, 1739, 110, 1740]), (43, .ifCond .eq 12, 3, []), (46, .aload_n 0, 1, []), (47, .iload_n 1, 1, []), (48, .iload_n 2, 1, []), (49, .invokevirtual 429, 3, [2070, 2072, 99, 110, 2073]), (52, .goto 4, 3, []), (55, .iconst (-1), 1, []), (56, .ireturn, 1, [])]
def z_h308 : List (Nat × Nat × Nat × Nat × Nat × Nat × Nat) := []
def z_m309 : zMi := (RX12, yX12_seed, cX12_seed, 3, some .int, [])
def z_c309 : List zI := [(2, 0, 0, 0), (0, 0, 0, 0), (38, 9, 0, 0), (2, 0, 0, 0), (37, 9, 1, 0), (0, 0, 0, 15), (39, 0, 0, 0), (4, 2, 0, 0), (2, 0, 0, 0), (37, 9, 1, 0), (0, 0, 0, 15), (1, 1, 0, 0), (40, 0, 0, 0), (1, 2, 0, 0), (50, 0, 0, 0)]
def z_i309 : List zJ := [(0, .aload_n 0, 1, []), (1, .iconst 0, 1, []), (2, .putfield 3, 3, [1457]), (5, .aload_n 0, 1, []), (6, .getfield 13, 3, [1458]), (9, .bipush 15, 2, []), (11, .iaload, 1, []), (12, .istore_n 2, 1, []), (13, .aload_n 0, 1, []), (14, .getfield 13, 3, [1458]), (17, .bipush 15, 2, []), (19, .iload_n 1, 1, []), (20, .iastore, 1, []), (21, .iload_n 2, 1, []), (22, .ireturn, 1, [])]
def z_h309 : List (Nat × Nat × Nat × Nat × Nat × Nat × Nat) := []
def z_m310 : zMi := (RX12, yX12_count, cX12_count, 2, some .int, [])
def z_c310 : List zI := [(2, 0, 0, 0), (0, 0, 0, 0), (38, 9, 0, 0), (1, 1, 0, 0), (35, 7, 0, 0), (2, 0, 0, 0), (37, 9, 1, 0), (0, 0, 0, 3), (39, 0, 0, 0), (0, 0, 0, 1), (32, 16, 1, 0), (2, 0, 0, 0), (37, 9, 1, 0), (0, 0, 0, 388), (39, 0, 0, 0), (30, 17, 0, 0), (0, 0, 0, -1), (50, 0, 0, 0), (2, 0, 0, 0), (54, 233, 0, 9), (50, 0, 0, 0), (2, 0, 0, 0), (54, 188, 0, 9), (50, 0, 0, 0), (2, 0, 0, 0), (37, 9, 1, 0), (0, 0, 0, 14), (39, 0, 0, 0), (50, 0, 0, 0), (2, 0, 0, 0), (37, 9, 7, 0), (50, 0, 0, 0), (1, 1, 0, 0), (0, 0, 0, 0), (0, 0, 0, 13), (55, 177, 3, 0), (31, 42, 0, 0), (2, 0, 0, 0), (37, 9, 1, 0), (1, 1, 0, 0), (39, 0, 0, 0), (30, 43, 0, 0), (0, 0, 0, -1), (50, 0, 0, 0)]
def z_i310 : List zJ := [(0, .aload_n 0, 1, []), (1, .iconst 0, 1, []), (2, .putfield 3, 3, [1457]), (5, .iload_n 1, 1, []), (6, .tableswitch 120 3 17 #[74, 120, 120, 120, 120, 120, 120, 120, 120, 120, 120, 97, 102, 107, 115], 74, []), (80, .aload_n 0, 1, []), (81, .getfield 13, 3, [1458]), (84, .iconst 3, 1, []), (85, .iaload, 1, []), (86, .iconst 1, 1, []), (87, .if_icmp .ne 14, 3, []), (90, .aload_n 0, 1, []), (91, .getfield 13, 3, [1458]), (94, .sipush 388, 3, []), (97, .iaload, 1, []), (98, .goto 4, 3, []), (101, .iconst (-1), 1, []), (102, .ireturn, 1, []), (103, .aload_n 0, 1, []), (104, .invokevirtual 276, 3, [1798, 1800, 68, 110, 1801]), (107, .ireturn, 1, []), (108, .aload_n 0, 1, []), (109, .invokevirtual 353, 3, [1866, 1868, 78, 110, 1869]), (112, .ireturn, 1, []), (113, .aload_n 0, 1, []), (114, .getfield 13, 3, [1458]), (117, .bipush 14, 2, []), (119, .iaload, 1, []), (120, .ireturn, 1, []), (121, .aload_n 0, 1, []), (122, .getfield 58, 3, [1464]), (125, .ireturn, 1, []), (126, .iload_n 1, 1, []), (127, .iconst 0, 1, []), (128, .bipush 13, 2, []), (130, .invokestatic 86, 3, [1738, 1739, 110, 1740]), (133, .ifCond .eq 12, 3, []), (136, .aload_n 0, 1, []), (137, .getfield 13, 3, [1458]), (140, .iload_n 1, 1, []), (141, .iaload, 1, []), (142, .goto 4, 3, []), (145, .iconst (-1), 1, []), (146, .ireturn, 1, [])]
def z_h310 : List (Nat × Nat × Nat × Nat × Nat × Nat × Nat) := []
def z_m311 : zMi := (RJ6, yJ6_bitCount_0f7a4, cJ6_bitCount_0f7a4, 1, some .int, [])
def z_c311 : List zI := [(1, 0, 0, 0), (1, 0, 0, 0), (0, 0, 0, 1), (15, 0, 0, 0), (0, 0, 0, 1431655765), (16, 0, 0, 0), (9, 0, 0, 0), (4, 0, 0, 0), (1, 0, 0, 0), (0, 0, 0, 858993459), (16, 0, 0, 0), (1, 0, 0, 0), (0, 0, 0, 2), (15, 0, 0, 0), (0, 0, 0, 858993459), (16, 0, 0, 0), (8, 0, 0, 0), (4, 0, 0, 0), (1, 0, 0, 0), (1, 0, 0, 0), (0, 0, 0, 4), (15, 0, 0, 0), (8, 0, 0, 0), (0, 0, 0, 252645135), (16, 0, 0, 0), (4, 0, 0, 0), (1, 0, 0, 0), (1, 0, 0, 0), (0, 0, 0, 8), (15, 0, 0, 0), (8, 0, 0, 0), (4, 0, 0, 0), (1, 0, 0, 0), (1, 0, 0, 0), (0, 0, 0, 16), (15, 0, 0, 0), (8, 0, 0, 0), (4, 0, 0, 0), (1, 0, 0, 0), (0, 0, 0, 63), (16, 0, 0, 0), (50, 0, 0, 0)]
def z_i311 : List zJ := [(0, .iload_n 0, 1, []), (1, .iload_n 0, 1, []), (2, .iconst 1, 1, []), (3, .iushr, 1, []), (4, .ldc_w 265, 3, [484]), (7, .iand, 1, []), (8, .isub, 1, []), (9, .istore_n 0, 1, []), (10, .iload_n 0, 1, []), (11, .ldc_w 266, 3, [485]), (14, .iand, 1, []), (15, .iload_n 0, 1, []), (16, .iconst 2, 1, []), (17, .iushr, 1, []), (18, .ldc_w 266, 3, [485]), (21, .iand, 1, []), (22, .iadd, 1, []), (23, .istore_n 0, 1, []), (24, .iload_n 0, 1, []), (25, .iload_n 0, 1, []), (26, .iconst 4, 1, []), (27, .iushr, 1, []), (28, .iadd, 1, []), (29, .ldc_w 267, 3, [486]), (32, .iand, 1, []), (33, .istore_n 0, 1, []), (34, .iload_n 0, 1, []), (35, .iload_n 0, 1, []), (36, .bipush 8, 2, []), (38, .iushr, 1, []), (39, .iadd, 1, []), (40, .istore_n 0, 1, []), (41, .iload_n 0, 1, []), (42, .iload_n 0, 1, []), (43, .bipush 16, 2, []), (45, .iushr, 1, []), (46, .iadd, 1, []), (47, .istore_n 0, 1, []), (48, .iload_n 0, 1, []), (49, .bipush 63, 2, []), (51, .iand, 1, []), (52, .ireturn, 1, [])]
def z_h311 : List (Nat × Nat × Nat × Nat × Nat × Nat × Nat) := []
def z_m312 : zMi := (RJ9, yJ9_floorMod_7cf53, cJ9_floorMod_7cf53, 3, some .int, [])
def z_c312 : List zI := [(1, 0, 0, 0), (1, 1, 0, 0), (12, 0, 0, 0), (4, 2, 0, 0), (1, 0, 0, 0), (1, 1, 0, 0), (18, 0, 0, 0), (31, 14, 3, 0), (1, 2, 0, 0), (31, 14, 0, 0), (1, 2, 0, 0), (1, 1, 0, 0), (8, 0, 0, 0), (50, 0, 0, 0), (1, 2, 0, 0), (50, 0, 0, 0)]
def z_i312 : List zJ := [(0, .iload_n 0, 1, []), (1, .iload_n 1, 1, []), (2, .irem, 1, []), (3, .istore_n 2, 1, []), (4, .iload_n 0, 1, []), (5, .iload_n 1, 1, []), (6, .ixor, 1, []), (7, .ifCond .ge 11, 3, []), (10, .iload_n 2, 1, []), (11, .ifCond .eq 7, 3, []), (14, .iload_n 2, 1, []), (15, .iload_n 1, 1, []), (16, .iadd, 1, []), (17, .ireturn, 1, []), (18, .iload_n 2, 1, []), (19, .ireturn, 1, [])]
def z_h312 : List (Nat × Nat × Nat × Nat × Nat × Nat × Nat) := []
def z_m313 : zMi := (RJ7, yJ7_fill_53178, cJ7_fill_53178, 4, none, [])
def z_c313 : List zI := [(0, 0, 0, 0), (4, 2, 0, 0), (2, 0, 0, 0), (46, 0, 0, 0), (4, 3, 0, 0), (1, 2, 0, 0), (1, 3, 0, 0), (32, 14, 3, 0), (2, 0, 0, 0), (1, 2, 0, 0), (1, 1, 0, 0), (40, 0, 0, 0), (7, 2, 0, 1), (30, 5, 0, 0), (53, 0, 0, 0)]
def z_i313 : List zJ := [(0, .iconst 0, 1, []), (1, .istore_n 2, 1, []), (2, .aload_n 0, 1, []), (3, .arraylength, 1, []), (4, .istore_n 3, 1, []), (5, .iload_n 2, 1, []), (6, .iload_n 3, 1, []), (7, .if_icmp .ge 13, 3, []), (10, .aload_n 0, 1, []), (11, .iload_n 2, 1, []), (12, .iload_n 1, 1, []), (13, .iastore, 1, []), (14, .iinc 2 1, 3, []), (17, .goto (-12), 3, []), (20, .return_, 1, [])]
def z_h313 : List (Nat × Nat × Nat × Nat × Nat × Nat × Nat) := []
def z_m314 : zMi := (RJ7, yJ7_copyOf_59c91, cJ7_copyOf_59c91, 3, some (.array .int), [])
def z_c314 : List zI := [(1, 1, 0, 0), (2, 0, 0, 0), (46, 0, 0, 0), (32, 8, 1, 0), (2, 0, 0, 0), (70, 0, 0, 0), (71, 0, 0, 0), (52, 0, 0, 0), (1, 1, 0, 0), (47, 0, 0, 0), (5, 2, 0, 0), (2, 0, 0, 0), (0, 0, 0, 0), (2, 2, 0, 0), (0, 0, 0, 0), (2, 0, 0, 0), (46, 0, 0, 0), (1, 1, 0, 0), (67, 0, 0, 0), (61, 0, 0, 0), (2, 2, 0, 0), (52, 0, 0, 0)]
def z_i314 : List zJ := [(0, .iload_n 1, 1, []), (1, .aload_n 0, 1, []), (2, .arraylength, 1, []), (3, .if_icmp .ne 11, 3, []), (6, .aload_n 0, 1, []), (7, .invokevirtual 316, 3, [955]), (10, .checkcast 317, 3, [961]), (13, .areturn, 1, []), (14, .iload_n 1, 1, []), (15, .newarray .int, 2, [158]), (17, .astore_n 2, 1, []), (18, .aload_n 0, 1, []), (19, .iconst 0, 1, []), (20, .aload_n 2, 1, []), (21, .iconst 0, 1, []), (22, .aload_n 0, 1, []), (23, .arraylength, 1, []), (24, .iload_n 1, 1, []), (25, .invokestatic 304, 3, [962]), (28, .invokestatic 150, 3, [963]), (31, .aload_n 2, 1, []), (32, .areturn, 1, [])]
def z_h314 : List (Nat × Nat × Nat × Nat × Nat × Nat × Nat) := []
def z_m315 : zMi := (RL, yL_deed, cL_deed, 3, some .int, [(0, 8, 11, 13), (0, 8, 14, 15)])
def z_c315 : List zI := [(2, 1, 0, 0), (0, 0, 0, 0), (2, 0, 0, 0), (54, 120, 0, 8), (19, 0, 0, 0), (43, 0, 0, 0), (30, 13, 0, 0), (5, 2, 0, 0), (0, 0, 0, 1), (50, 0, 0, 0), (5, 2, 0, 0), (0, 0, 0, 2), (50, 0, 0, 0), (0, 0, 0, 0), (50, 0, 0, 0)]
def z_i315 : List zJ := [(0, .aload_n 1, 1, []), (1, .iconst 0, 1, []), (2, .aload_n 0, 1, []), (3, .invokevirtual 7, 3, [624, 625, 626, 101, 627]), (6, .i2l, 1, []), (7, .lastore, 1, []), (8, .goto 9, 3, []), (11, .astore_n 2, 1, []), (12, .iconst 1, 1, []), (13, .ireturn, 1, []), (14, .astore_n 2, 1, []), (15, .iconst 2, 1, []), (16, .ireturn, 1, []), (17, .iconst 0, 1, []), (18, .ireturn, 1, [])]
def z_h315 : List (Nat × Nat × Nat × Nat × Nat × Nat × Nat) := [(0, 8, 11, 13, 0, 8, 2), (0, 8, 14, 15, 1, 11, 2)]
def z_m316 : zMi := (RL, yL_law, cL_law, 3, some .int, [(0, 8, 11, 13)])
def z_c316 : List zI := [(2, 1, 0, 0), (0, 0, 0, 0), (2, 0, 0, 0), (54, 121, 0, 8), (19, 0, 0, 0), (43, 0, 0, 0), (30, 10, 0, 0), (5, 2, 0, 0), (0, 0, 0, 1), (50, 0, 0, 0), (0, 0, 0, 0), (50, 0, 0, 0)]
def z_i316 : List zJ := [(0, .aload_n 1, 1, []), (1, .iconst 0, 1, []), (2, .aload_n 0, 1, []), (3, .invokevirtual 17, 3, [885, 886, 887, 101, 888]), (6, .i2l, 1, []), (7, .lastore, 1, []), (8, .goto 6, 3, []), (11, .astore_n 2, 1, []), (12, .iconst 1, 1, []), (13, .ireturn, 1, []), (14, .iconst 0, 1, []), (15, .ireturn, 1, [])]
def z_h316 : List (Nat × Nat × Nat × Nat × Nat × Nat × Nat) := [(0, 8, 11, 13, 0, 8, 2)]
def z_m317 : zMi := (RL, yL_holds, cL_holds, 4, some .int, [(0, 9, 12, 24)])
def z_c317 : List zI := [(2, 2, 0, 0), (0, 0, 0, 0), (2, 0, 0, 0), (1, 1, 0, 0), (54, 123, 1, 8), (19, 0, 0, 0), (43, 0, 0, 0), (30, 11, 0, 0), (5, 3, 0, 0), (0, 0, 0, 1), (50, 0, 0, 0), (0, 0, 0, 0), (50, 0, 0, 0)]
def z_i317 : List zJ := [(0, .aload_n 2, 1, []), (1, .iconst 0, 1, []), (2, .aload_n 0, 1, []), (3, .iload_n 1, 1, []), (4, .invokevirtual 20, 3, [994, 995, 996, 101, 997]), (7, .i2l, 1, []), (8, .lastore, 1, []), (9, .goto 6, 3, []), (12, .astore_n 3, 1, []), (13, .iconst 1, 1, []), (14, .ireturn, 1, []), (15, .iconst 0, 1, []), (16, .ireturn, 1, [])]
def z_h317 : List (Nat × Nat × Nat × Nat × Nat × Nat × Nat) := [(0, 9, 12, 24, 2, 9, 3)]
def z_m318 : zMi := (RL, yL_family, cL_family, 5, some .int, [(0, 10, 13, 24), (0, 10, 17, 30)])
def z_c318 : List zI := [(2, 3, 0, 0), (0, 0, 0, 0), (2, 0, 0, 0), (1, 1, 0, 0), (1, 2, 0, 0), (54, 124, 2, 8), (19, 0, 0, 0), (43, 0, 0, 0), (30, 15, 0, 0), (5, 4, 0, 0), (0, 0, 0, 1), (50, 0, 0, 0), (5, 4, 0, 0), (0, 0, 0, 2), (50, 0, 0, 0), (0, 0, 0, 0), (50, 0, 0, 0)]
def z_i318 : List zJ := [(0, .aload_n 3, 1, []), (1, .iconst 0, 1, []), (2, .aload_n 0, 1, []), (3, .iload_n 1, 1, []), (4, .iload_n 2, 1, []), (5, .invokevirtual 26, 3, [1022, 1023, 1024, 101, 1025]), (8, .i2l, 1, []), (9, .lastore, 1, []), (10, .goto 11, 3, []), (13, .astore 4, 2, []), (15, .iconst 1, 1, []), (16, .ireturn, 1, []), (17, .astore 4, 2, []), (19, .iconst 2, 1, []), (20, .ireturn, 1, []), (21, .iconst 0, 1, []), (22, .ireturn, 1, [])]
def z_h318 : List (Nat × Nat × Nat × Nat × Nat × Nat × Nat) := [(0, 10, 13, 24, 2, 10, 4), (0, 10, 17, 30, 3, 13, 4)]
def z_m319 : zMi := (RL, yL_does, cL_does, 6, some .int, [(0, 12, 15, 24), (0, 12, 19, 30)])
def z_c319 : List zI := [(2, 4, 0, 0), (0, 0, 0, 0), (2, 0, 0, 0), (1, 1, 0, 0), (1, 2, 0, 0), (1, 3, 0, 0), (54, 125, 3, 8), (19, 0, 0, 0), (43, 0, 0, 0), (30, 16, 0, 0), (5, 5, 0, 0), (0, 0, 0, 1), (50, 0, 0, 0), (5, 5, 0, 0), (0, 0, 0, 2), (50, 0, 0, 0), (0, 0, 0, 0), (50, 0, 0, 0)]
def z_i319 : List zJ := [(0, .aload 4, 2, []), (2, .iconst 0, 1, []), (3, .aload_n 0, 1, []), (4, .iload_n 1, 1, []), (5, .iload_n 2, 1, []), (6, .iload_n 3, 1, []), (7, .invokevirtual 32, 3, [1070, 1071, 1072, 101, 1073]), (10, .i2l, 1, []), (11, .lastore, 1, []), (12, .goto 11, 3, []), (15, .astore 5, 2, []), (17, .iconst 1, 1, []), (18, .ireturn, 1, []), (19, .astore 5, 2, []), (21, .iconst 2, 1, []), (22, .ireturn, 1, []), (23, .iconst 0, 1, []), (24, .ireturn, 1, [])]
def z_h319 : List (Nat × Nat × Nat × Nat × Nat × Nat × Nat) := [(0, 12, 15, 24, 2, 11, 5), (0, 12, 19, 30, 3, 14, 5)]
def z_m320 : zMi := (RL, yL_thing, cL_thing, 5, some .int, [(0, 10, 13, 24), (0, 10, 17, 30)])
def z_c320 : List zI := [(2, 3, 0, 0), (0, 0, 0, 0), (2, 0, 0, 0), (1, 1, 0, 0), (1, 2, 0, 0), (54, 126, 2, 8), (19, 0, 0, 0), (43, 0, 0, 0), (30, 15, 0, 0), (5, 4, 0, 0), (0, 0, 0, 1), (50, 0, 0, 0), (5, 4, 0, 0), (0, 0, 0, 2), (50, 0, 0, 0), (0, 0, 0, 0), (50, 0, 0, 0)]
def z_i320 : List zJ := [(0, .aload_n 3, 1, []), (1, .iconst 0, 1, []), (2, .aload_n 0, 1, []), (3, .iload_n 1, 1, []), (4, .iload_n 2, 1, []), (5, .invokevirtual 36, 3, [1111, 1112, 1113, 101, 1114]), (8, .i2l, 1, []), (9, .lastore, 1, []), (10, .goto 11, 3, []), (13, .astore 4, 2, []), (15, .iconst 1, 1, []), (16, .ireturn, 1, []), (17, .astore 4, 2, []), (19, .iconst 2, 1, []), (20, .ireturn, 1, []), (21, .iconst 0, 1, []), (22, .ireturn, 1, [])]
def z_h320 : List (Nat × Nat × Nat × Nat × Nat × Nat × Nat) := [(0, 10, 13, 24, 2, 10, 4), (0, 10, 17, 30, 3, 13, 4)]
def z_m321 : zMi := (RL, yL_sell, cL_sell, 5, some .int, [(0, 10, 13, 24), (0, 10, 17, 13), (0, 10, 21, 42)])
def z_c321 : List zI := [(2, 3, 0, 0), (0, 0, 0, 0), (2, 0, 0, 0), (1, 1, 0, 0), (1, 2, 0, 0), (54, 127, 2, 8), (19, 0, 0, 0), (43, 0, 0, 0), (30, 18, 0, 0), (5, 4, 0, 0), (0, 0, 0, 1), (50, 0, 0, 0), (5, 4, 0, 0), (0, 0, 0, 2), (50, 0, 0, 0), (5, 4, 0, 0), (0, 0, 0, 3), (50, 0, 0, 0), (0, 0, 0, 0), (50, 0, 0, 0)]
def z_i321 : List zJ := [(0, .aload_n 3, 1, []), (1, .iconst 0, 1, []), (2, .aload_n 0, 1, []), (3, .iload_n 1, 1, []), (4, .iload_n 2, 1, []), (5, .invokevirtual 39, 3, [1137, 1138, 1139, 101, 1140]), (8, .i2l, 1, []), (9, .lastore, 1, []), (10, .goto 15, 3, []), (13, .astore 4, 2, []), (15, .iconst 1, 1, []), (16, .ireturn, 1, []), (17, .astore 4, 2, []), (19, .iconst 2, 1, []), (20, .ireturn, 1, []), (21, .astore 4, 2, []), (23, .iconst 3, 1, []), (24, .ireturn, 1, []), (25, .iconst 0, 1, []), (26, .ireturn, 1, [])]
def z_h321 : List (Nat × Nat × Nat × Nat × Nat × Nat × Nat) := [(0, 10, 13, 24, 2, 10, 4), (0, 10, 17, 13, 0, 13, 4), (0, 10, 21, 42, 4, 16, 4)]
def z_m322 : zMi := (RL, yL_buy, cL_buy, 5, some .int, [(0, 10, 13, 24), (0, 10, 17, 42)])
def z_c322 : List zI := [(2, 3, 0, 0), (0, 0, 0, 0), (2, 0, 0, 0), (1, 1, 0, 0), (1, 2, 0, 0), (54, 128, 2, 8), (19, 0, 0, 0), (43, 0, 0, 0), (30, 15, 0, 0), (5, 4, 0, 0), (0, 0, 0, 1), (50, 0, 0, 0), (5, 4, 0, 0), (0, 0, 0, 2), (50, 0, 0, 0), (0, 0, 0, 0), (50, 0, 0, 0)]
def z_i322 : List zJ := [(0, .aload_n 3, 1, []), (1, .iconst 0, 1, []), (2, .aload_n 0, 1, []), (3, .iload_n 1, 1, []), (4, .iload_n 2, 1, []), (5, .invokevirtual 44, 3, [1181, 1182, 1183, 101, 1184]), (8, .i2l, 1, []), (9, .lastore, 1, []), (10, .goto 11, 3, []), (13, .astore 4, 2, []), (15, .iconst 1, 1, []), (16, .ireturn, 1, []), (17, .astore 4, 2, []), (19, .iconst 2, 1, []), (20, .ireturn, 1, []), (21, .iconst 0, 1, []), (22, .ireturn, 1, [])]
def z_h322 : List (Nat × Nat × Nat × Nat × Nat × Nat × Nat) := [(0, 10, 13, 24, 2, 10, 4), (0, 10, 17, 42, 4, 13, 4)]
def z_m323 : zMi := (RL, yL_swap, cL_swap, 5, some .int, [(0, 10, 13, 24), (0, 10, 17, 13), (0, 10, 21, 42)])
def z_c323 : List zI := [(2, 3, 0, 0), (0, 0, 0, 0), (2, 0, 0, 0), (1, 1, 0, 0), (1, 2, 0, 0), (54, 129, 2, 8), (19, 0, 0, 0), (43, 0, 0, 0), (30, 18, 0, 0), (5, 4, 0, 0), (0, 0, 0, 1), (50, 0, 0, 0), (5, 4, 0, 0), (0, 0, 0, 2), (50, 0, 0, 0), (5, 4, 0, 0), (0, 0, 0, 3), (50, 0, 0, 0), (0, 0, 0, 0), (50, 0, 0, 0)]
def z_i323 : List zJ := [(0, .aload_n 3, 1, []), (1, .iconst 0, 1, []), (2, .aload_n 0, 1, []), (3, .iload_n 1, 1, []), (4, .iload_n 2, 1, []), (5, .invokevirtual 47, 3, [1188, 1189, 1190, 101, 1191]), (8, .i2l, 1, []), (9, .lastore, 1, []), (10, .goto 15, 3, []), (13, .astore 4, 2, []), (15, .iconst 1, 1, []), (16, .ireturn, 1, []), (17, .astore 4, 2, []), (19, .iconst 2, 1, []), (20, .ireturn, 1, []), (21, .astore 4, 2, []), (23, .iconst 3, 1, []), (24, .ireturn, 1, []), (25, .iconst 0, 1, []), (26, .ireturn, 1, [])]
def z_h323 : List (Nat × Nat × Nat × Nat × Nat × Nat × Nat) := [(0, 10, 13, 24, 2, 10, 4), (0, 10, 17, 13, 0, 13, 4), (0, 10, 21, 42, 4, 16, 4)]
def z_m324 : zMi := (RL, yL_free, cL_free, 4, some .int, [(0, 9, 12, 24), (0, 9, 15, 42)])
def z_c324 : List zI := [(2, 2, 0, 0), (0, 0, 0, 0), (2, 0, 0, 0), (1, 1, 0, 0), (54, 130, 1, 8), (19, 0, 0, 0), (43, 0, 0, 0), (30, 14, 0, 0), (5, 3, 0, 0), (0, 0, 0, 1), (50, 0, 0, 0), (5, 3, 0, 0), (0, 0, 0, 2), (50, 0, 0, 0), (0, 0, 0, 0), (50, 0, 0, 0)]
def z_i324 : List zJ := [(0, .aload_n 2, 1, []), (1, .iconst 0, 1, []), (2, .aload_n 0, 1, []), (3, .iload_n 1, 1, []), (4, .invokevirtual 50, 3, [1195, 1196, 1197, 101, 1198]), (7, .i2l, 1, []), (8, .lastore, 1, []), (9, .goto 9, 3, []), (12, .astore_n 3, 1, []), (13, .iconst 1, 1, []), (14, .ireturn, 1, []), (15, .astore_n 3, 1, []), (16, .iconst 2, 1, []), (17, .ireturn, 1, []), (18, .iconst 0, 1, []), (19, .ireturn, 1, [])]
def z_h324 : List (Nat × Nat × Nat × Nat × Nat × Nat × Nat) := [(0, 9, 12, 24, 2, 9, 3), (0, 9, 15, 42, 4, 12, 3)]
def z_m325 : zMi := (RL, yL_leave, cL_leave, 4, some .int, [(0, 9, 12, 24), (0, 9, 15, 42)])
def z_c325 : List zI := [(2, 2, 0, 0), (0, 0, 0, 0), (2, 0, 0, 0), (1, 1, 0, 0), (54, 131, 1, 8), (19, 0, 0, 0), (43, 0, 0, 0), (30, 14, 0, 0), (5, 3, 0, 0), (0, 0, 0, 1), (50, 0, 0, 0), (5, 3, 0, 0), (0, 0, 0, 2), (50, 0, 0, 0), (0, 0, 0, 0), (50, 0, 0, 0)]
def z_i325 : List zJ := [(0, .aload_n 2, 1, []), (1, .iconst 0, 1, []), (2, .aload_n 0, 1, []), (3, .iload_n 1, 1, []), (4, .invokevirtual 53, 3, [1202, 1203, 1204, 101, 1205]), (7, .i2l, 1, []), (8, .lastore, 1, []), (9, .goto 9, 3, []), (12, .astore_n 3, 1, []), (13, .iconst 1, 1, []), (14, .ireturn, 1, []), (15, .astore_n 3, 1, []), (16, .iconst 2, 1, []), (17, .ireturn, 1, []), (18, .iconst 0, 1, []), (19, .ireturn, 1, [])]
def z_h325 : List (Nat × Nat × Nat × Nat × Nat × Nat × Nat) := [(0, 9, 12, 24, 2, 9, 3), (0, 9, 15, 42, 4, 12, 3)]
def z_m326 : zMi := (RL, yL_fetch, cL_fetch, 4, some .int, [(0, 9, 12, 24), (0, 9, 15, 42)])
def z_c326 : List zI := [(2, 2, 0, 0), (0, 0, 0, 0), (2, 0, 0, 0), (1, 1, 0, 0), (54, 132, 1, 8), (19, 0, 0, 0), (43, 0, 0, 0), (30, 14, 0, 0), (5, 3, 0, 0), (0, 0, 0, 1), (50, 0, 0, 0), (5, 3, 0, 0), (0, 0, 0, 2), (50, 0, 0, 0), (0, 0, 0, 0), (50, 0, 0, 0)]
def z_i326 : List zJ := [(0, .aload_n 2, 1, []), (1, .iconst 0, 1, []), (2, .aload_n 0, 1, []), (3, .iload_n 1, 1, []), (4, .invokevirtual 56, 3, [1211, 1212, 1213, 101, 1214]), (7, .i2l, 1, []), (8, .lastore, 1, []), (9, .goto 9, 3, []), (12, .astore_n 3, 1, []), (13, .iconst 1, 1, []), (14, .ireturn, 1, []), (15, .astore_n 3, 1, []), (16, .iconst 2, 1, []), (17, .ireturn, 1, []), (18, .iconst 0, 1, []), (19, .ireturn, 1, [])]
def z_h326 : List (Nat × Nat × Nat × Nat × Nat × Nat × Nat) := [(0, 9, 12, 24, 2, 9, 3), (0, 9, 15, 42, 4, 12, 3)]
def z_m327 : zMi := (RL, yL_quiet, cL_quiet, 3, some .int, [(0, 8, 11, 42)])
def z_c327 : List zI := [(2, 1, 0, 0), (0, 0, 0, 0), (2, 0, 0, 0), (54, 133, 0, 8), (19, 0, 0, 0), (43, 0, 0, 0), (30, 10, 0, 0), (5, 2, 0, 0), (0, 0, 0, 1), (50, 0, 0, 0), (0, 0, 0, 0), (50, 0, 0, 0)]
def z_i327 : List zJ := [(0, .aload_n 1, 1, []), (1, .iconst 0, 1, []), (2, .aload_n 0, 1, []), (3, .invokevirtual 59, 3, [1222, 1223, 1224, 101, 1225]), (6, .i2l, 1, []), (7, .lastore, 1, []), (8, .goto 6, 3, []), (11, .astore_n 2, 1, []), (12, .iconst 1, 1, []), (13, .ireturn, 1, []), (14, .iconst 0, 1, []), (15, .ireturn, 1, [])]
def z_h327 : List (Nat × Nat × Nat × Nat × Nat × Nat × Nat) := [(0, 8, 11, 42, 4, 8, 2)]
def z_m328 : zMi := (RL, yL_hours, cL_hours, 4, some .int, [(0, 9, 12, 13)])
def z_c328 : List zI := [(2, 2, 0, 0), (0, 0, 0, 0), (2, 0, 0, 0), (1, 1, 0, 0), (54, 135, 1, 8), (19, 0, 0, 0), (43, 0, 0, 0), (30, 11, 0, 0), (5, 3, 0, 0), (0, 0, 0, 1), (50, 0, 0, 0), (0, 0, 0, 0), (50, 0, 0, 0)]
def z_i328 : List zJ := [(0, .aload_n 2, 1, []), (1, .iconst 0, 1, []), (2, .aload_n 0, 1, []), (3, .iload_n 1, 1, []), (4, .invokevirtual 62, 3, [1229, 1230, 1231, 101, 1232]), (7, .i2l, 1, []), (8, .lastore, 1, []), (9, .goto 6, 3, []), (12, .astore_n 3, 1, []), (13, .iconst 1, 1, []), (14, .ireturn, 1, []), (15, .iconst 0, 1, []), (16, .ireturn, 1, [])]
def z_h328 : List (Nat × Nat × Nat × Nat × Nat × Nat × Nat) := [(0, 9, 12, 13, 0, 9, 3)]
def z_m329 : zMi := (RL, yL_met, cL_met, 5, some .int, [(0, 10, 13, 24), (0, 10, 17, 13)])
def z_c329 : List zI := [(2, 3, 0, 0), (0, 0, 0, 0), (2, 0, 0, 0), (1, 1, 0, 0), (1, 2, 0, 0), (54, 137, 2, 8), (19, 0, 0, 0), (43, 0, 0, 0), (30, 15, 0, 0), (5, 4, 0, 0), (0, 0, 0, 1), (50, 0, 0, 0), (5, 4, 0, 0), (0, 0, 0, 2), (50, 0, 0, 0), (0, 0, 0, 0), (50, 0, 0, 0)]
def z_i329 : List zJ := [(0, .aload_n 3, 1, []), (1, .iconst 0, 1, []), (2, .aload_n 0, 1, []), (3, .iload_n 1, 1, []), (4, .iload_n 2, 1, []), (5, .invokevirtual 65, 3, [1279, 1280, 1281, 101, 1282]), (8, .i2l, 1, []), (9, .lastore, 1, []), (10, .goto 11, 3, []), (13, .astore 4, 2, []), (15, .iconst 1, 1, []), (16, .ireturn, 1, []), (17, .astore 4, 2, []), (19, .iconst 2, 1, []), (20, .ireturn, 1, []), (21, .iconst 0, 1, []), (22, .ireturn, 1, [])]
def z_h329 : List (Nat × Nat × Nat × Nat × Nat × Nat × Nat) := [(0, 10, 13, 24, 2, 10, 4), (0, 10, 17, 13, 0, 13, 4)]
def z_m330 : zMi := (RL, yL_part, cL_part, 5, some .int, [(0, 10, 13, 24), (0, 10, 17, 13)])
def z_c330 : List zI := [(2, 3, 0, 0), (0, 0, 0, 0), (2, 0, 0, 0), (1, 1, 0, 0), (1, 2, 0, 0), (54, 143, 2, 8), (19, 0, 0, 0), (43, 0, 0, 0), (30, 15, 0, 0), (5, 4, 0, 0), (0, 0, 0, 1), (50, 0, 0, 0), (5, 4, 0, 0), (0, 0, 0, 2), (50, 0, 0, 0), (0, 0, 0, 0), (50, 0, 0, 0)]
def z_i330 : List zJ := [(0, .aload_n 3, 1, []), (1, .iconst 0, 1, []), (2, .aload_n 0, 1, []), (3, .iload_n 1, 1, []), (4, .iload_n 2, 1, []), (5, .invokevirtual 68, 3, [1287, 1288, 1289, 101, 1290]), (8, .i2l, 1, []), (9, .lastore, 1, []), (10, .goto 11, 3, []), (13, .astore 4, 2, []), (15, .iconst 1, 1, []), (16, .ireturn, 1, []), (17, .astore 4, 2, []), (19, .iconst 2, 1, []), (20, .ireturn, 1, []), (21, .iconst 0, 1, []), (22, .ireturn, 1, [])]
def z_h330 : List (Nat × Nat × Nat × Nat × Nat × Nat × Nat) := [(0, 10, 13, 24, 2, 10, 4), (0, 10, 17, 13, 0, 13, 4)]
def z_m331 : zMi := (RL, yL_corner, cL_corner, 4, some .int, [(0, 9, 12, 24)])
def z_c331 : List zI := [(2, 2, 0, 0), (0, 0, 0, 0), (2, 0, 0, 0), (1, 1, 0, 0), (54, 144, 1, 8), (19, 0, 0, 0), (43, 0, 0, 0), (30, 11, 0, 0), (5, 3, 0, 0), (0, 0, 0, 1), (50, 0, 0, 0), (0, 0, 0, 0), (50, 0, 0, 0)]
def z_i331 : List zJ := [(0, .aload_n 2, 1, []), (1, .iconst 0, 1, []), (2, .aload_n 0, 1, []), (3, .iload_n 1, 1, []), (4, .invokevirtual 71, 3, [1303, 1304, 1305, 101, 1306]), (7, .i2l, 1, []), (8, .lastore, 1, []), (9, .goto 6, 3, []), (12, .astore_n 3, 1, []), (13, .iconst 1, 1, []), (14, .ireturn, 1, []), (15, .iconst 0, 1, []), (16, .ireturn, 1, [])]
def z_h331 : List (Nat × Nat × Nat × Nat × Nat × Nat × Nat) := [(0, 9, 12, 24, 2, 9, 3)]
def z_m332 : zMi := (RL, yL_bids, cL_bids, 6, some .int, [(0, 12, 15, 24), (0, 12, 19, 13)])
def z_c332 : List zI := [(2, 4, 0, 0), (0, 0, 0, 0), (2, 0, 0, 0), (1, 1, 0, 0), (1, 2, 0, 0), (1, 3, 0, 0), (54, 145, 3, 8), (19, 0, 0, 0), (43, 0, 0, 0), (30, 16, 0, 0), (5, 5, 0, 0), (0, 0, 0, 1), (50, 0, 0, 0), (5, 5, 0, 0), (0, 0, 0, 2), (50, 0, 0, 0), (0, 0, 0, 0), (50, 0, 0, 0)]
def z_i332 : List zJ := [(0, .aload 4, 2, []), (2, .iconst 0, 1, []), (3, .aload_n 0, 1, []), (4, .iload_n 1, 1, []), (5, .iload_n 2, 1, []), (6, .iload_n 3, 1, []), (7, .invokevirtual 74, 3, [1320, 1321, 1322, 101, 1323]), (10, .i2l, 1, []), (11, .lastore, 1, []), (12, .goto 11, 3, []), (15, .astore 5, 2, []), (17, .iconst 1, 1, []), (18, .ireturn, 1, []), (19, .astore 5, 2, []), (21, .iconst 2, 1, []), (22, .ireturn, 1, []), (23, .iconst 0, 1, []), (24, .ireturn, 1, [])]
def z_h332 : List (Nat × Nat × Nat × Nat × Nat × Nat × Nat) := [(0, 12, 15, 24, 2, 11, 5), (0, 12, 19, 13, 0, 14, 5)]
def z_m333 : zMi := (RL, yL_who, cL_who, 4, some .int, [(0, 9, 12, 13)])
def z_c333 : List zI := [(2, 2, 0, 0), (0, 0, 0, 0), (2, 0, 0, 0), (1, 1, 0, 0), (54, 146, 1, 8), (19, 0, 0, 0), (43, 0, 0, 0), (30, 11, 0, 0), (5, 3, 0, 0), (0, 0, 0, 1), (50, 0, 0, 0), (0, 0, 0, 0), (50, 0, 0, 0)]
def z_i333 : List zJ := [(0, .aload_n 2, 1, []), (1, .iconst 0, 1, []), (2, .aload_n 0, 1, []), (3, .iload_n 1, 1, []), (4, .invokevirtual 77, 3, [1337, 1338, 1339, 101, 1340]), (7, .i2l, 1, []), (8, .lastore, 1, []), (9, .goto 6, 3, []), (12, .astore_n 3, 1, []), (13, .iconst 1, 1, []), (14, .ireturn, 1, []), (15, .iconst 0, 1, []), (16, .ireturn, 1, [])]
def z_h333 : List (Nat × Nat × Nat × Nat × Nat × Nat × Nat) := [(0, 9, 12, 13, 0, 9, 3)]
def z_m334 : zMi := (RL, yL_lesson, cL_lesson, 4, some .int, [(0, 9, 12, 13)])
def z_c334 : List zI := [(2, 2, 0, 0), (0, 0, 0, 0), (2, 0, 0, 0), (1, 1, 0, 0), (54, 149, 1, 8), (19, 0, 0, 0), (43, 0, 0, 0), (30, 11, 0, 0), (5, 3, 0, 0), (0, 0, 0, 1), (50, 0, 0, 0), (0, 0, 0, 0), (50, 0, 0, 0)]
def z_i334 : List zJ := [(0, .aload_n 2, 1, []), (1, .iconst 0, 1, []), (2, .aload_n 0, 1, []), (3, .iload_n 1, 1, []), (4, .invokevirtual 81, 3, [1361, 1362, 1363, 101, 1364]), (7, .i2l, 1, []), (8, .lastore, 1, []), (9, .goto 6, 3, []), (12, .astore_n 3, 1, []), (13, .iconst 1, 1, []), (14, .ireturn, 1, []), (15, .iconst 0, 1, []), (16, .ireturn, 1, [])]
def z_h334 : List (Nat × Nat × Nat × Nat × Nat × Nat × Nat) := [(0, 9, 12, 13, 0, 9, 3)]
def z_m335 : zMi := (RL, yL_ahead, cL_ahead, 5, some .int, [(0, 10, 13, 13), (0, 10, 17, 30)])
def z_c335 : List zI := [(2, 3, 0, 0), (0, 0, 0, 0), (2, 0, 0, 0), (1, 1, 0, 0), (1, 2, 0, 0), (54, 151, 2, 8), (19, 0, 0, 0), (43, 0, 0, 0), (30, 15, 0, 0), (5, 4, 0, 0), (0, 0, 0, 1), (50, 0, 0, 0), (5, 4, 0, 0), (0, 0, 0, 2), (50, 0, 0, 0), (0, 0, 0, 0), (50, 0, 0, 0)]
def z_i335 : List zJ := [(0, .aload_n 3, 1, []), (1, .iconst 0, 1, []), (2, .aload_n 0, 1, []), (3, .iload_n 1, 1, []), (4, .iload_n 2, 1, []), (5, .invokevirtual 84, 3, [1374, 1375, 1376, 101, 1377]), (8, .i2l, 1, []), (9, .lastore, 1, []), (10, .goto 11, 3, []), (13, .astore 4, 2, []), (15, .iconst 1, 1, []), (16, .ireturn, 1, []), (17, .astore 4, 2, []), (19, .iconst 2, 1, []), (20, .ireturn, 1, []), (21, .iconst 0, 1, []), (22, .ireturn, 1, [])]
def z_h335 : List (Nat × Nat × Nat × Nat × Nat × Nat × Nat) := [(0, 10, 13, 13, 0, 10, 4), (0, 10, 17, 30, 3, 13, 4)]
def z_m336 : zMi := (RL, yL_dusty, cL_dusty, 4, some .int, [(0, 9, 12, 13)])
def z_c336 : List zI := [(2, 2, 0, 0), (0, 0, 0, 0), (2, 0, 0, 0), (1, 1, 0, 0), (54, 152, 1, 8), (19, 0, 0, 0), (43, 0, 0, 0), (30, 11, 0, 0), (5, 3, 0, 0), (0, 0, 0, 1), (50, 0, 0, 0), (0, 0, 0, 0), (50, 0, 0, 0)]
def z_i336 : List zJ := [(0, .aload_n 2, 1, []), (1, .iconst 0, 1, []), (2, .aload_n 0, 1, []), (3, .iload_n 1, 1, []), (4, .invokevirtual 87, 3, [1381, 1382, 1383, 101, 1384]), (7, .i2l, 1, []), (8, .lastore, 1, []), (9, .goto 6, 3, []), (12, .astore_n 3, 1, []), (13, .iconst 1, 1, []), (14, .ireturn, 1, []), (15, .iconst 0, 1, []), (16, .ireturn, 1, [])]
def z_h336 : List (Nat × Nat × Nat × Nat × Nat × Nat × Nat) := [(0, 9, 12, 13, 0, 9, 3)]
def z_m337 : zMi := (RL, yL_warmest, cL_warmest, 4, some .int, [(0, 9, 12, 13)])
def z_c337 : List zI := [(2, 2, 0, 0), (0, 0, 0, 0), (2, 0, 0, 0), (1, 1, 0, 0), (54, 153, 1, 8), (19, 0, 0, 0), (43, 0, 0, 0), (30, 11, 0, 0), (5, 3, 0, 0), (0, 0, 0, 1), (50, 0, 0, 0), (0, 0, 0, 0), (50, 0, 0, 0)]
def z_i337 : List zJ := [(0, .aload_n 2, 1, []), (1, .iconst 0, 1, []), (2, .aload_n 0, 1, []), (3, .iload_n 1, 1, []), (4, .invokevirtual 90, 3, [1388, 1389, 1390, 101, 1391]), (7, .i2l, 1, []), (8, .lastore, 1, []), (9, .goto 6, 3, []), (12, .astore_n 3, 1, []), (13, .iconst 1, 1, []), (14, .ireturn, 1, []), (15, .iconst 0, 1, []), (16, .ireturn, 1, [])]
def z_h337 : List (Nat × Nat × Nat × Nat × Nat × Nat × Nat) := [(0, 9, 12, 13, 0, 9, 3)]
def z_m338 : zMi := (RL, yL_ruin, cL_ruin, 4, some .int, [(0, 9, 12, 24)])
def z_c338 : List zI := [(2, 2, 0, 0), (0, 0, 0, 0), (2, 0, 0, 0), (1, 1, 0, 0), (54, 154, 1, 8), (19, 0, 0, 0), (43, 0, 0, 0), (30, 11, 0, 0), (5, 3, 0, 0), (0, 0, 0, 1), (50, 0, 0, 0), (0, 0, 0, 0), (50, 0, 0, 0)]
def z_i338 : List zJ := [(0, .aload_n 2, 1, []), (1, .iconst 0, 1, []), (2, .aload_n 0, 1, []), (3, .iload_n 1, 1, []), (4, .invokevirtual 93, 3, [1395, 1396, 1397, 101, 1398]), (7, .i2l, 1, []), (8, .lastore, 1, []), (9, .goto 6, 3, []), (12, .astore_n 3, 1, []), (13, .iconst 1, 1, []), (14, .ireturn, 1, []), (15, .iconst 0, 1, []), (16, .ireturn, 1, [])]
def z_h338 : List (Nat × Nat × Nat × Nat × Nat × Nat × Nat) := [(0, 9, 12, 24, 2, 9, 3)]
def z_m339 : zMi := (RL, yL_trial, cL_trial, 5, some .int, [(0, 10, 13, 13)])
def z_c339 : List zI := [(2, 3, 0, 0), (0, 0, 0, 0), (2, 0, 0, 0), (1, 1, 0, 0), (1, 2, 0, 0), (54, 157, 2, 8), (19, 0, 0, 0), (43, 0, 0, 0), (30, 12, 0, 0), (5, 4, 0, 0), (0, 0, 0, 1), (50, 0, 0, 0), (0, 0, 0, 0), (50, 0, 0, 0)]
def z_i339 : List zJ := [(0, .aload_n 3, 1, []), (1, .iconst 0, 1, []), (2, .aload_n 0, 1, []), (3, .iload_n 1, 1, []), (4, .iload_n 2, 1, []), (5, .invokevirtual 96, 3, [1402, 1403, 1404, 101, 1405]), (8, .i2l, 1, []), (9, .lastore, 1, []), (10, .goto 7, 3, []), (13, .astore 4, 2, []), (15, .iconst 1, 1, []), (16, .ireturn, 1, []), (17, .iconst 0, 1, []), (18, .ireturn, 1, [])]
def z_h339 : List (Nat × Nat × Nat × Nat × Nat × Nat × Nat) := [(0, 10, 13, 13, 0, 10, 4)]
def z_m340 : zMi := (RL, yL_span, cL_span, 5, some .int, [(0, 10, 13, 13)])
def z_c340 : List zI := [(2, 3, 0, 0), (0, 0, 0, 0), (2, 0, 0, 0), (1, 1, 0, 0), (1, 2, 0, 0), (54, 158, 2, 8), (19, 0, 0, 0), (43, 0, 0, 0), (30, 12, 0, 0), (5, 4, 0, 0), (0, 0, 0, 1), (50, 0, 0, 0), (0, 0, 0, 0), (50, 0, 0, 0)]
def z_i340 : List zJ := [(0, .aload_n 3, 1, []), (1, .iconst 0, 1, []), (2, .aload_n 0, 1, []), (3, .iload_n 1, 1, []), (4, .iload_n 2, 1, []), (5, .invokevirtual 100, 3, [1417, 1418, 1419, 101, 1420]), (8, .i2l, 1, []), (9, .lastore, 1, []), (10, .goto 7, 3, []), (13, .astore 4, 2, []), (15, .iconst 1, 1, []), (16, .ireturn, 1, []), (17, .iconst 0, 1, []), (18, .ireturn, 1, [])]
def z_h340 : List (Nat × Nat × Nat × Nat × Nat × Nat × Nat) := [(0, 10, 13, 13, 0, 10, 4)]
def z_m341 : zMi := (RL, yL_led, cL_led, 5, some .int, [(0, 10, 13, 24)])
def z_c341 : List zI := [(2, 3, 0, 0), (0, 0, 0, 0), (2, 0, 0, 0), (1, 1, 0, 0), (1, 2, 0, 0), (54, 159, 2, 8), (19, 0, 0, 0), (43, 0, 0, 0), (30, 12, 0, 0), (5, 4, 0, 0), (0, 0, 0, 1), (50, 0, 0, 0), (0, 0, 0, 0), (50, 0, 0, 0)]
def z_i341 : List zJ := [(0, .aload_n 3, 1, []), (1, .iconst 0, 1, []), (2, .aload_n 0, 1, []), (3, .iload_n 1, 1, []), (4, .iload_n 2, 1, []), (5, .invokevirtual 103, 3, [1426, 1427, 1428, 101, 1429]), (8, .i2l, 1, []), (9, .lastore, 1, []), (10, .goto 7, 3, []), (13, .astore 4, 2, []), (15, .iconst 1, 1, []), (16, .ireturn, 1, []), (17, .iconst 0, 1, []), (18, .ireturn, 1, [])]
def z_h341 : List (Nat × Nat × Nat × Nat × Nat × Nat × Nat) := [(0, 10, 13, 24, 2, 10, 4)]
def z_m342 : zMi := (RL, yL_log, cL_log, 5, some .int, [(0, 10, 13, 30)])
def z_c342 : List zI := [(2, 3, 0, 0), (0, 0, 0, 0), (2, 0, 0, 0), (1, 1, 0, 0), (1, 2, 0, 0), (54, 160, 2, 8), (19, 0, 0, 0), (43, 0, 0, 0), (30, 12, 0, 0), (5, 4, 0, 0), (0, 0, 0, 1), (50, 0, 0, 0), (0, 0, 0, 0), (50, 0, 0, 0)]
def z_i342 : List zJ := [(0, .aload_n 3, 1, []), (1, .iconst 0, 1, []), (2, .aload_n 0, 1, []), (3, .iload_n 1, 1, []), (4, .iload_n 2, 1, []), (5, .invokevirtual 106, 3, [1446, 1447, 1448, 101, 1449]), (8, .i2l, 1, []), (9, .lastore, 1, []), (10, .goto 7, 3, []), (13, .astore 4, 2, []), (15, .iconst 1, 1, []), (16, .ireturn, 1, []), (17, .iconst 0, 1, []), (18, .ireturn, 1, [])]
def z_h342 : List (Nat × Nat × Nat × Nat × Nat × Nat × Nat) := [(0, 10, 13, 30, 3, 10, 4)]
def z_m343 : zMi := (RL, yL_law_, cL_law_, 7, some .boolean, [])
def z_c343 : List zI := [(49, 8, 0, 0), (27, 0, 0, 0), (56, 117, 0, 0), (5, 1, 0, 0), (49, 9, 0, 0), (27, 0, 0, 0), (56, 179, 0, 0), (5, 2, 0, 0), (0, 0, 0, 1), (47, 2, 0, 0), (5, 3, 0, 0), (0, 0, 0, 0), (4, 4, 0, 0), (1, 4, 0, 0), (2, 0, 0, 0), (66, 0, 0, 0), (0, 0, 0, 6), (9, 0, 0, 0), (32, 921, 4, 0), (2, 0, 0, 0), (1, 4, 0, 0), (65, 0, 0, 0), (0, 0, 0, 63), (16, 0, 0, 0), (35, 8, 0, 0), (2, 1, 0, 0), (2, 0, 0, 0), (1, 4, 0, 0), (0, 0, 0, 1), (8, 0, 0, 0), (65, 0, 0, 0), (2, 0, 0, 0), (1, 4, 0, 0), (0, 0, 0, 2), (8, 0, 0, 0), (65, 0, 0, 0), (2, 0, 0, 0), (1, 4, 0, 0), (0, 0, 0, 3), (8, 0, 0, 0), (65, 0, 0, 0), (2, 0, 0, 0), (1, 4, 0, 0), (0, 0, 0, 4), (8, 0, 0, 0), (65, 0, 0, 0), (2, 0, 0, 0), (1, 4, 0, 0), (0, 0, 0, 5), (8, 0, 0, 0), (65, 0, 0, 0), (54, 118, 5, 8), (2, 2, 0, 0), (2, 0, 0, 0), (1, 4, 0, 0), (0, 0, 0, 1), (8, 0, 0, 0), (65, 0, 0, 0), (2, 0, 0, 0), (1, 4, 0, 0), (0, 0, 0, 2), (8, 0, 0, 0), (65, 0, 0, 0), (2, 0, 0, 0), (1, 4, 0, 0), (0, 0, 0, 3), (8, 0, 0, 0), (65, 0, 0, 0), (2, 0, 0, 0), (1, 4, 0, 0), (0, 0, 0, 4), (8, 0, 0, 0), (65, 0, 0, 0), (2, 0, 0, 0), (1, 4, 0, 0), (0, 0, 0, 5), (8, 0, 0, 0), (65, 0, 0, 0), (54, 199, 5, 9), (32, 919, 0, 0), (0, 0, 0, 0), (50, 0, 0, 0), (2, 1, 0, 0), (2, 0, 0, 0), (1, 4, 0, 0), (0, 0, 0, 1), (8, 0, 0, 0), (65, 0, 0, 0), (54, 119, 1, 8), (29, 0, 0, 0), (2, 2, 0, 0), (2, 0, 0, 0), (1, 4, 0, 0), (0, 0, 0, 1), (8, 0, 0, 0), (65, 0, 0, 0), (54, 200, 1, 9), (29, 0, 0, 0), (30, 919, 0, 0), (2, 1, 0, 0), (2, 3, 0, 0), (72, 315, 2, 0), (4, 5, 0, 0), (2, 2, 0, 0), (54, 231, 0, 9), (4, 6, 0, 0), (30, 919, 0, 0), (2, 1, 0, 0), (2, 3, 0, 0), (72, 316, 2, 0), (4, 5, 0, 0), (2, 2, 0, 0), (54, 232, 0, 9), (4, 6, 0, 0), (30, 919, 0, 0), (2, 1, 0, 0), (54, 122, 0, 8), (29, 0, 0, 0), (2, 2, 0, 0), (54, 209, 0, 9), (29, 0, 0, 0), (30, 919, 0, 0), (2, 1, 0, 0), (2, 0, 0, 0), (1, 4, 0, 0), (0, 0, 0, 1), (8, 0, 0, 0), (65, 0, 0, 0), (2, 3, 0, 0), (72, 317, 3, 0), (4, 5, 0, 0), (2, 2, 0, 0), (2, 0, 0, 0), (1, 4, 0, 0), (0, 0, 0, 1), (8, 0, 0, 0), (65, 0, 0, 0), (54, 248, 1, 9), (4, 6, 0, 0), (30, 919, 0, 0), (2, 1, 0, 0), (2, 0, 0, 0), (1, 4, 0, 0), (0, 0, 0, 1), (8, 0, 0, 0), (65, 0, 0, 0), (2, 0, 0, 0), (1, 4, 0, 0), (0, 0, 0, 2), (8, 0, 0, 0), (65, 0, 0, 0), (2, 3, 0, 0), (72, 318, 4, 0), (4, 5, 0, 0), (2, 2, 0, 0), (2, 0, 0, 0), (1, 4, 0, 0), (0, 0, 0, 1), (8, 0, 0, 0), (65, 0, 0, 0), (2, 0, 0, 0), (1, 4, 0, 0), (0, 0, 0, 2), (8, 0, 0, 0), (65, 0, 0, 0), (54, 249, 2, 9), (4, 6, 0, 0), (30, 919, 0, 0), (2, 1, 0, 0), (2, 0, 0, 0), (1, 4, 0, 0), (0, 0, 0, 1), (8, 0, 0, 0), (65, 0, 0, 0), (2, 0, 0, 0), (1, 4, 0, 0), (0, 0, 0, 2), (8, 0, 0, 0), (65, 0, 0, 0), (2, 0, 0, 0), (1, 4, 0, 0), (0, 0, 0, 3), (8, 0, 0, 0), (65, 0, 0, 0), (2, 3, 0, 0), (72, 319, 5, 0), (4, 5, 0, 0), (2, 2, 0, 0), (2, 0, 0, 0), (1, 4, 0, 0), (0, 0, 0, 1), (8, 0, 0, 0), (65, 0, 0, 0), (2, 0, 0, 0), (1, 4, 0, 0), (0, 0, 0, 2), (8, 0, 0, 0), (65, 0, 0, 0), (2, 0, 0, 0), (1, 4, 0, 0), (0, 0, 0, 3), (8, 0, 0, 0), (65, 0, 0, 0), (54, 250, 3, 9), (4, 6, 0, 0), (30, 919, 0, 0), (2, 1, 0, 0), (2, 0, 0, 0), (1, 4, 0, 0), (0, 0, 0, 1), (8, 0, 0, 0), (65, 0, 0, 0), (2, 0, 0, 0), (1, 4, 0, 0), (0, 0, 0, 2), (8, 0, 0, 0), (65, 0, 0, 0), (2, 3, 0, 0), (72, 320, 4, 0), (4, 5, 0, 0), (2, 2, 0, 0), (2, 0, 0, 0), (1, 4, 0, 0), (0, 0, 0, 1), (8, 0, 0, 0), (65, 0, 0, 0), (2, 0, 0, 0), (1, 4, 0, 0), (0, 0, 0, 2), (8, 0, 0, 0), (65, 0, 0, 0), (54, 251, 2, 9), (4, 6, 0, 0), (30, 919, 0, 0), (2, 1, 0, 0), (2, 0, 0, 0), (1, 4, 0, 0), (0, 0, 0, 1), (8, 0, 0, 0), (65, 0, 0, 0), (2, 0, 0, 0), (1, 4, 0, 0), (0, 0, 0, 2), (8, 0, 0, 0), (65, 0, 0, 0), (2, 3, 0, 0), (72, 321, 4, 0), (4, 5, 0, 0), (2, 2, 0, 0), (2, 0, 0, 0), (1, 4, 0, 0), (0, 0, 0, 1), (8, 0, 0, 0), (65, 0, 0, 0), (2, 0, 0, 0), (1, 4, 0, 0), (0, 0, 0, 2), (8, 0, 0, 0), (65, 0, 0, 0), (54, 252, 2, 9), (4, 6, 0, 0), (30, 919, 0, 0), (2, 1, 0, 0), (2, 0, 0, 0), (1, 4, 0, 0), (0, 0, 0, 1), (8, 0, 0, 0), (65, 0, 0, 0), (2, 0, 0, 0), (1, 4, 0, 0), (0, 0, 0, 2), (8, 0, 0, 0), (65, 0, 0, 0), (2, 3, 0, 0), (72, 322, 4, 0), (4, 5, 0, 0), (2, 2, 0, 0), (2, 0, 0, 0), (1, 4, 0, 0), (0, 0, 0, 1), (8, 0, 0, 0), (65, 0, 0, 0), (2, 0, 0, 0), (1, 4, 0, 0), (0, 0, 0, 2), (8, 0, 0, 0), (65, 0, 0, 0), (54, 253, 2, 9), (4, 6, 0, 0), (30, 919, 0, 0), (2, 1, 0, 0), (2, 0, 0, 0), (1, 4, 0, 0), (0, 0, 0, 1), (8, 0, 0, 0), (65, 0, 0, 0), (2, 0, 0, 0), (1, 4, 0, 0), (0, 0, 0, 2), (8, 0, 0, 0), (65, 0, 0, 0), (2, 3, 0, 0), (72, 323, 4, 0), (4, 5, 0, 0), (2, 2, 0, 0), (2, 0, 0, 0), (1, 4, 0, 0), (0, 0, 0, 1), (8, 0, 0, 0), (65, 0, 0, 0), (2, 0, 0, 0), (1, 4, 0, 0), (0, 0, 0, 2), (8, 0, 0, 0), (65, 0, 0, 0), (54, 255, 2, 9), (4, 6, 0, 0), (30, 919, 0, 0), (2, 1, 0, 0), (2, 0, 0, 0), (1, 4, 0, 0), (0, 0, 0, 1), (8, 0, 0, 0), (65, 0, 0, 0), (2, 3, 0, 0), (72, 324, 3, 0), (4, 5, 0, 0), (2, 2, 0, 0), (2, 0, 0, 0), (1, 4, 0, 0), (0, 0, 0, 1), (8, 0, 0, 0), (65, 0, 0, 0), (54, 256, 1, 9), (4, 6, 0, 0), (30, 919, 0, 0), (2, 1, 0, 0), (2, 0, 0, 0), (1, 4, 0, 0), (0, 0, 0, 1), (8, 0, 0, 0), (65, 0, 0, 0), (2, 3, 0, 0), (72, 325, 3, 0), (4, 5, 0, 0), (2, 2, 0, 0), (2, 0, 0, 0), (1, 4, 0, 0), (0, 0, 0, 1), (8, 0, 0, 0), (65, 0, 0, 0), (54, 258, 1, 9), (4, 6, 0, 0), (30, 919, 0, 0), (2, 1, 0, 0), (2, 0, 0, 0), (1, 4, 0, 0), (0, 0, 0, 1), (8, 0, 0, 0), (65, 0, 0, 0), (2, 3, 0, 0), (72, 326, 3, 0), (4, 5, 0, 0), (2, 2, 0, 0), (2, 0, 0, 0), (1, 4, 0, 0), (0, 0, 0, 1), (8, 0, 0, 0), (65, 0, 0, 0), (54, 259, 1, 9), (4, 6, 0, 0), (30, 919, 0, 0), (2, 1, 0, 0), (2, 3, 0, 0), (72, 327, 2, 0), (4, 5, 0, 0), (2, 2, 0, 0), (54, 260, 0, 9), (4, 6, 0, 0), (30, 919, 0, 0), (2, 1, 0, 0), (54, 134, 0, 8), (29, 0, 0, 0), (2, 2, 0, 0), (54, 261, 0, 9), (29, 0, 0, 0), (30, 919, 0, 0), (2, 1, 0, 0), (2, 0, 0, 0), (1, 4, 0, 0), (0, 0, 0, 1), (8, 0, 0, 0), (65, 0, 0, 0), (2, 3, 0, 0), (72, 328, 3, 0), (4, 5, 0, 0), (2, 2, 0, 0), (2, 0, 0, 0), (1, 4, 0, 0), (0, 0, 0, 1), (8, 0, 0, 0), (65, 0, 0, 0), (54, 269, 1, 9), (4, 6, 0, 0), (30, 919, 0, 0), (2, 1, 0, 0), (54, 136, 0, 8), (29, 0, 0, 0), (2, 2, 0, 0), (54, 274, 0, 9), (29, 0, 0, 0), (30, 919, 0, 0), (2, 1, 0, 0), (2, 0, 0, 0), (1, 4, 0, 0), (0, 0, 0, 1), (8, 0, 0, 0), (65, 0, 0, 0), (2, 0, 0, 0), (1, 4, 0, 0), (0, 0, 0, 2), (8, 0, 0, 0), (65, 0, 0, 0), (2, 3, 0, 0), (72, 329, 4, 0), (4, 5, 0, 0), (2, 2, 0, 0), (2, 0, 0, 0), (1, 4, 0, 0), (0, 0, 0, 1), (8, 0, 0, 0), (65, 0, 0, 0), (2, 0, 0, 0), (1, 4, 0, 0), (0, 0, 0, 2), (8, 0, 0, 0), (65, 0, 0, 0), (54, 277, 2, 9), (4, 6, 0, 0), (30, 919, 0, 0), (2, 1, 0, 0), (54, 138, 0, 8), (29, 0, 0, 0), (2, 2, 0, 0), (54, 279, 0, 9), (29, 0, 0, 0), (30, 919, 0, 0), (2, 1, 0, 0), (54, 139, 0, 8), (29, 0, 0, 0), (2, 2, 0, 0), (54, 288, 0, 9), (29, 0, 0, 0), (30, 919, 0, 0), (2, 1, 0, 0), (54, 140, 0, 8), (29, 0, 0, 0), (2, 2, 0, 0), (54, 290, 0, 9), (29, 0, 0, 0), (30, 919, 0, 0), (2, 1, 0, 0), (54, 141, 0, 8), (29, 0, 0, 0), (2, 2, 0, 0), (54, 281, 0, 9), (29, 0, 0, 0), (30, 919, 0, 0), (2, 1, 0, 0), (2, 0, 0, 0), (1, 4, 0, 0), (0, 0, 0, 1), (8, 0, 0, 0), (65, 0, 0, 0), (54, 142, 1, 8), (29, 0, 0, 0), (2, 2, 0, 0), (2, 0, 0, 0), (1, 4, 0, 0), (0, 0, 0, 1), (8, 0, 0, 0), (65, 0, 0, 0), (54, 293, 1, 9), (29, 0, 0, 0), (30, 919, 0, 0), (2, 1, 0, 0), (2, 0, 0, 0), (1, 4, 0, 0), (0, 0, 0, 1), (8, 0, 0, 0), (65, 0, 0, 0), (2, 0, 0, 0), (1, 4, 0, 0), (0, 0, 0, 2), (8, 0, 0, 0), (65, 0, 0, 0), (2, 3, 0, 0), (72, 330, 4, 0), (4, 5, 0, 0), (2, 2, 0, 0), (2, 0, 0, 0), (1, 4, 0, 0), (0, 0, 0, 1), (8, 0, 0, 0), (65, 0, 0, 0), (2, 0, 0, 0), (1, 4, 0, 0), (0, 0, 0, 2), (8, 0, 0, 0), (65, 0, 0, 0), (54, 295, 2, 9), (4, 6, 0, 0), (30, 919, 0, 0), (2, 1, 0, 0), (2, 0, 0, 0), (1, 4, 0, 0), (0, 0, 0, 1), (8, 0, 0, 0), (65, 0, 0, 0), (2, 3, 0, 0), (72, 331, 3, 0), (4, 5, 0, 0), (2, 2, 0, 0), (2, 0, 0, 0), (1, 4, 0, 0), (0, 0, 0, 1), (8, 0, 0, 0), (65, 0, 0, 0), (54, 283, 1, 9), (4, 6, 0, 0), (30, 919, 0, 0), (2, 1, 0, 0), (2, 0, 0, 0), (1, 4, 0, 0), (0, 0, 0, 1), (8, 0, 0, 0), (65, 0, 0, 0), (2, 0, 0, 0), (1, 4, 0, 0), (0, 0, 0, 2), (8, 0, 0, 0), (65, 0, 0, 0), (2, 0, 0, 0), (1, 4, 0, 0), (0, 0, 0, 3), (8, 0, 0, 0), (65, 0, 0, 0), (2, 3, 0, 0), (72, 332, 5, 0), (4, 5, 0, 0), (2, 2, 0, 0), (2, 0, 0, 0), (1, 4, 0, 0), (0, 0, 0, 1), (8, 0, 0, 0), (65, 0, 0, 0), (2, 0, 0, 0), (1, 4, 0, 0), (0, 0, 0, 2), (8, 0, 0, 0), (65, 0, 0, 0), (2, 0, 0, 0), (1, 4, 0, 0), (0, 0, 0, 3), (8, 0, 0, 0), (65, 0, 0, 0), (54, 297, 3, 9), (4, 6, 0, 0), (30, 919, 0, 0), (2, 1, 0, 0), (2, 0, 0, 0), (1, 4, 0, 0), (0, 0, 0, 1), (8, 0, 0, 0), (65, 0, 0, 0), (31, 578, 0, 0), (0, 0, 0, 1), (30, 579, 0, 0), (0, 0, 0, 0), (2, 3, 0, 0), (72, 333, 3, 0), (4, 5, 0, 0), (2, 2, 0, 0), (2, 0, 0, 0), (1, 4, 0, 0), (0, 0, 0, 1), (8, 0, 0, 0), (65, 0, 0, 0), (31, 591, 0, 0), (0, 0, 0, 1), (30, 592, 0, 0), (0, 0, 0, 0), (54, 299, 1, 9), (4, 6, 0, 0), (30, 919, 0, 0), (2, 1, 0, 0), (54, 147, 0, 8), (29, 0, 0, 0), (2, 2, 0, 0), (54, 300, 0, 9), (29, 0, 0, 0), (30, 919, 0, 0), (2, 1, 0, 0), (54, 148, 0, 8), (29, 0, 0, 0), (2, 2, 0, 0), (54, 278, 0, 9), (29, 0, 0, 0), (30, 919, 0, 0), (2, 1, 0, 0), (2, 0, 0, 0), (1, 4, 0, 0), (0, 0, 0, 1), (8, 0, 0, 0), (65, 0, 0, 0), (2, 3, 0, 0), (72, 334, 3, 0), (4, 5, 0, 0), (2, 2, 0, 0), (2, 0, 0, 0), (1, 4, 0, 0), (0, 0, 0, 1), (8, 0, 0, 0), (65, 0, 0, 0), (54, 284, 1, 9), (4, 6, 0, 0), (30, 919, 0, 0), (2, 1, 0, 0), (54, 150, 0, 8), (29, 0, 0, 0), (2, 2, 0, 0), (54, 280, 0, 9), (29, 0, 0, 0), (30, 919, 0, 0), (2, 1, 0, 0), (2, 0, 0, 0), (1, 4, 0, 0), (0, 0, 0, 1), (8, 0, 0, 0), (65, 0, 0, 0), (2, 0, 0, 0), (1, 4, 0, 0), (0, 0, 0, 2), (8, 0, 0, 0), (65, 0, 0, 0), (2, 3, 0, 0), (72, 335, 4, 0), (4, 5, 0, 0), (2, 2, 0, 0), (2, 0, 0, 0), (1, 4, 0, 0), (0, 0, 0, 1), (8, 0, 0, 0), (65, 0, 0, 0), (2, 0, 0, 0), (1, 4, 0, 0), (0, 0, 0, 2), (8, 0, 0, 0), (65, 0, 0, 0), (54, 270, 2, 9), (4, 6, 0, 0), (30, 919, 0, 0), (2, 1, 0, 0), (2, 0, 0, 0), (1, 4, 0, 0), (0, 0, 0, 1), (8, 0, 0, 0), (65, 0, 0, 0), (2, 3, 0, 0), (72, 336, 3, 0), (4, 5, 0, 0), (2, 2, 0, 0), (2, 0, 0, 0), (1, 4, 0, 0), (0, 0, 0, 1), (8, 0, 0, 0), (65, 0, 0, 0), (54, 271, 1, 9), (4, 6, 0, 0), (30, 919, 0, 0), (2, 1, 0, 0), (2, 0, 0, 0), (1, 4, 0, 0), (0, 0, 0, 1), (8, 0, 0, 0), (65, 0, 0, 0), (2, 3, 0, 0), (72, 337, 3, 0), (4, 5, 0, 0), (2, 2, 0, 0), (2, 0, 0, 0), (1, 4, 0, 0), (0, 0, 0, 1), (8, 0, 0, 0), (65, 0, 0, 0), (54, 272, 1, 9), (4, 6, 0, 0), (30, 919, 0, 0), (2, 1, 0, 0), (2, 0, 0, 0), (1, 4, 0, 0), (0, 0, 0, 1), (8, 0, 0, 0), (65, 0, 0, 0), (2, 3, 0, 0), (72, 338, 3, 0), (4, 5, 0, 0), (2, 2, 0, 0), (2, 0, 0, 0), (1, 4, 0, 0), (0, 0, 0, 1), (8, 0, 0, 0), (65, 0, 0, 0), (54, 273, 1, 9), (4, 6, 0, 0), (30, 919, 0, 0), (2, 1, 0, 0), (54, 155, 0, 8), (29, 0, 0, 0), (2, 2, 0, 0), (54, 301, 0, 9), (29, 0, 0, 0), (30, 919, 0, 0), (2, 1, 0, 0), (54, 156, 0, 8), (29, 0, 0, 0), (2, 2, 0, 0), (54, 302, 0, 9), (29, 0, 0, 0), (30, 919, 0, 0), (2, 1, 0, 0), (2, 0, 0, 0), (1, 4, 0, 0), (0, 0, 0, 1), (8, 0, 0, 0), (65, 0, 0, 0), (2, 0, 0, 0), (1, 4, 0, 0), (0, 0, 0, 2), (8, 0, 0, 0), (65, 0, 0, 0), (31, 744, 0, 0), (0, 0, 0, 1), (30, 745, 0, 0), (0, 0, 0, 0), (2, 3, 0, 0), (72, 339, 4, 0), (4, 5, 0, 0), (2, 2, 0, 0), (2, 0, 0, 0), (1, 4, 0, 0), (0, 0, 0, 1), (8, 0, 0, 0), (65, 0, 0, 0), (2, 0, 0, 0), (1, 4, 0, 0), (0, 0, 0, 2), (8, 0, 0, 0), (65, 0, 0, 0), (31, 762, 0, 0), (0, 0, 0, 1), (30, 763, 0, 0), (0, 0, 0, 0), (54, 304, 2, 9), (4, 6, 0, 0), (30, 919, 0, 0), (2, 1, 0, 0), (2, 0, 0, 0), (1, 4, 0, 0), (0, 0, 0, 1), (8, 0, 0, 0), (65, 0, 0, 0), (2, 0, 0, 0), (1, 4, 0, 0), (0, 0, 0, 2), (8, 0, 0, 0), (65, 0, 0, 0), (31, 780, 0, 0), (0, 0, 0, 1), (30, 781, 0, 0), (0, 0, 0, 0), (2, 3, 0, 0), (72, 340, 4, 0), (4, 5, 0, 0), (2, 2, 0, 0), (2, 0, 0, 0), (1, 4, 0, 0), (0, 0, 0, 1), (8, 0, 0, 0), (65, 0, 0, 0), (2, 0, 0, 0), (1, 4, 0, 0), (0, 0, 0, 2), (8, 0, 0, 0), (65, 0, 0, 0), (31, 798, 0, 0), (0, 0, 0, 1), (30, 799, 0, 0), (0, 0, 0, 0), (54, 305, 2, 9), (4, 6, 0, 0), (30, 919, 0, 0), (2, 1, 0, 0), (2, 0, 0, 0), (1, 4, 0, 0), (0, 0, 0, 1), (8, 0, 0, 0), (65, 0, 0, 0), (2, 0, 0, 0), (1, 4, 0, 0), (0, 0, 0, 2), (8, 0, 0, 0), (65, 0, 0, 0), (31, 816, 0, 0), (0, 0, 0, 1), (30, 817, 0, 0), (0, 0, 0, 0), (2, 3, 0, 0), (72, 341, 4, 0), (4, 5, 0, 0), (2, 2, 0, 0), (2, 0, 0, 0), (1, 4, 0, 0), (0, 0, 0, 1), (8, 0, 0, 0), (65, 0, 0, 0), (2, 0, 0, 0), (1, 4, 0, 0), (0, 0, 0, 2), (8, 0, 0, 0), (65, 0, 0, 0), (31, 834, 0, 0), (0, 0, 0, 1), (30, 835, 0, 0), (0, 0, 0, 0), (54, 307, 2, 9), (4, 6, 0, 0), (30, 919, 0, 0), (2, 1, 0, 0), (2, 0, 0, 0), (1, 4, 0, 0), (0, 0, 0, 1), (8, 0, 0, 0), (65, 0, 0, 0), (2, 0, 0, 0), (1, 4, 0, 0), (0, 0, 0, 2), (8, 0, 0, 0), (65, 0, 0, 0), (2, 3, 0, 0), (72, 342, 4, 0), (4, 5, 0, 0), (2, 2, 0, 0), (2, 0, 0, 0), (1, 4, 0, 0), (0, 0, 0, 1), (8, 0, 0, 0), (65, 0, 0, 0), (2, 0, 0, 0), (1, 4, 0, 0), (0, 0, 0, 2), (8, 0, 0, 0), (65, 0, 0, 0), (54, 308, 2, 9), (4, 6, 0, 0), (30, 919, 0, 0), (2, 1, 0, 0), (2, 0, 0, 0), (1, 4, 0, 0), (0, 0, 0, 1), (8, 0, 0, 0), (65, 0, 0, 0), (54, 161, 1, 8), (29, 0, 0, 0), (2, 2, 0, 0), (2, 0, 0, 0), (1, 4, 0, 0), (0, 0, 0, 1), (8, 0, 0, 0), (65, 0, 0, 0), (54, 309, 1, 9), (29, 0, 0, 0), (30, 919, 0, 0), (2, 1, 0, 0), (54, 162, 0, 8), (29, 0, 0, 0), (2, 2, 0, 0), (54, 183, 0, 9), (29, 0, 0, 0), (30, 919, 0, 0), (2, 1, 0, 0), (54, 163, 0, 8), (2, 2, 0, 0), (54, 180, 0, 9), (30, 919, 0, 0), (2, 1, 0, 0), (54, 164, 0, 8), (29, 0, 0, 0), (2, 2, 0, 0), (54, 181, 0, 9), (29, 0, 0, 0), (30, 919, 0, 0), (2, 1, 0, 0), (2, 0, 0, 0), (1, 4, 0, 0), (0, 0, 0, 1), (8, 0, 0, 0), (65, 0, 0, 0), (54, 165, 1, 8), (29, 0, 0, 0), (2, 2, 0, 0), (2, 0, 0, 0), (1, 4, 0, 0), (0, 0, 0, 1), (8, 0, 0, 0), (65, 0, 0, 0), (54, 310, 1, 9), (29, 0, 0, 0), (30, 919, 0, 0), (7, 4, 0, 6), (30, 13, 0, 0), (0, 0, 0, 1), (50, 0, 0, 0)]
def z_i343 : List zJ := [(0, .new 8, 3, [130, 131, 101]), (3, .dup, 1, []), (4, .invokespecial 109, 3, [132, 133, 101, 134]), (7, .astore_n 1, 1, []), (8, .new 110, 3, [1451, 1452, 110]), (11, .dup, 1, []), (12, .invokespecial 112, 3, [1453, 1454, 110, 1455]), (15, .astore_n 2, 1, []), (16, .iconst 1, 1, []), (17, .newarray .long, 2, [2086]), (19, .astore_n 3, 1, []), (20, .iconst 0, 1, []), (21, .istore 4, 2, []), (23, .iload 4, 2, []), (25, .aload_n 0, 1, []), (26, .arraylength, 1, []), (27, .bipush 6, 2, []), (29, .isub, 1, []), (30, .if_icmp .gt 1594, 3, []), (33, .aload_n 0, 1, []), (34, .iload 4, 2, []), (36, .iaload, 1, []), (37, .bipush 63, 2, []), (39, .iand, 1, []), (40, .tableswitch 1578 0 47 #[208, 281, 306, 322, 338, 351, 379, 419, 471, 511, 551, 591, 631, 659, 687, 715, 731, 744, 772, 785, 825, 838, 851, 864, 877, 902, 942, 970, 1022, 1066, 1079, 1092, 1120, 1133, 1173, 1201, 1229, 1257, 1270, 1283, 1339, 1395, 1451, 1491, 1516, 1529, 1540, 1553], 208, []), (248, .aload_n 1, 1, []), (249, .aload_n 0, 1, []), (250, .iload 4, 2, []), (252, .iconst 1, 1, []), (253, .iadd, 1, []), (254, .iaload, 1, []), (255, .aload_n 0, 1, []), (256, .iload 4, 2, []), (258, .iconst 2, 1, []), (259, .iadd, 1, []), (260, .iaload, 1, []), (261, .aload_n 0, 1, []), (262, .iload 4, 2, []), (264, .iconst 3, 1, []), (265, .iadd, 1, []), (266, .iaload, 1, []), (267, .aload_n 0, 1, []), (268, .iload 4, 2, []), (270, .iconst 4, 1, []), (271, .iadd, 1, []), (272, .iaload, 1, []), (273, .aload_n 0, 1, []), (274, .iload 4, 2, []), (276, .iconst 5, 1, []), (277, .iadd, 1, []), (278, .iaload, 1, []), (279, .invokevirtual 113, 3, [391, 392, 393, 101, 394]), (282, .aload_n 2, 1, []), (283, .aload_n 0, 1, []), (284, .iload 4, 2, []), (286, .iconst 1, 1, []), (287, .iadd, 1, []), (288, .iaload, 1, []), (289, .aload_n 0, 1, []), (290, .iload 4, 2, []), (292, .iconst 2, 1, []), (293, .iadd, 1, []), (294, .iaload, 1, []), (295, .aload_n 0, 1, []), (296, .iload 4, 2, []), (298, .iconst 3, 1, []), (299, .iadd, 1, []), (300, .iaload, 1, []), (301, .aload_n 0, 1, []), (302, .iload 4, 2, []), (304, .iconst 4, 1, []), (305, .iadd, 1, []), (306, .iaload, 1, []), (307, .aload_n 0, 1, []), (308, .iload 4, 2, []), (310, .iconst 5, 1, []), (311, .iadd, 1, []), (312, .iaload, 1, []), (313, .invokevirtual 117, 3, [1539, 1540, 1541, 110, 1542]), (316, .if_icmp .eq 1302, 3, []), (319, .iconst 0, 1, []), (320, .ireturn, 1, []), (321, .aload_n 1, 1, []), (322, .aload_n 0, 1, []), (323, .iload 4, 2, []), (325, .iconst 1, 1, []), (326, .iadd, 1, []), (327, .iaload, 1, []), (328, .invokevirtual 118, 3, [399, 400, 401, 101, 402]), (331, .pop, 1, []), (332, .aload_n 2, 1, []), (333, .aload_n 0, 1, []), (334, .iload 4, 2, []), (336, .iconst 1, 1, []), (337, .iadd, 1, []), (338, .iaload, 1, []), (339, .invokevirtual 122, 3, [1543, 1544, 1545, 110, 1546]), (342, .pop, 1, []), (343, .goto 1275, 3, []), (346, .aload_n 1, 1, []), (347, .aload_n 3, 1, []), (348, .invokestatic 123, 3, [619, 620, 100, 621]), (351, .istore 5, 2, []), (353, .aload_n 2, 1, []), (354, .invokevirtual 128, 3, [1551, 1552, 1553, 110, 1554]), (357, .istore 6, 2, []), (359, .goto 1259, 3, []), (362, .aload_n 1, 1, []), (363, .aload_n 3, 1, []), (364, .invokestatic 129, 3, [882, 883, 100, 884]), (367, .istore 5, 2, []), (369, .aload_n 2, 1, []), (370, .invokevirtual 131, 3, [1727, 1728, 1729, 110, 1730]), (373, .istore 6, 2, []), (375, .goto 1243, 3, []), (378, .aload_n 1, 1, []), (379, .invokevirtual 132, 3, [403, 404, 405, 101, 406]), (382, .pop, 1, []), (383, .aload_n 2, 1, []), (384, .invokevirtual 135, 3, [1547, 1548, 1549, 110, 1550]), (387, .pop, 1, []), (388, .goto 1230, 3, []), (391, .aload_n 1, 1, []), (392, .aload_n 0, 1, []), (393, .iload 4, 2, []), (395, .iconst 1, 1, []), (396, .iadd, 1, []), (397, .iaload, 1, []), (398, .aload_n 3, 1, []), (399, .invokestatic 136, 3, [990, 991, 100, 992]), (402, .istore 5, 2, []), (404, .aload_n 2, 1, []), (405, .aload_n 0, 1, []), (406, .iload 4, 2, []), (408, .iconst 1, 1, []), (409, .iadd, 1, []), (410, .iaload, 1, []), (411, .invokevirtual 139, 3, [1731, 1732, 1733, 110, 1734]), (414, .istore 6, 2, []), (416, .goto 1202, 3, []), (419, .aload_n 1, 1, []), (420, .aload_n 0, 1, []), (421, .iload 4, 2, []), (423, .iconst 1, 1, []), (424, .iadd, 1, []), (425, .iaload, 1, []), (426, .aload_n 0, 1, []), (427, .iload 4, 2, []), (429, .iconst 2, 1, []), (430, .iadd, 1, []), (431, .iaload, 1, []), (432, .aload_n 3, 1, []), (433, .invokestatic 140, 3, [1018, 1019, 100, 1020]), (436, .istore 5, 2, []), (438, .aload_n 2, 1, []), (439, .aload_n 0, 1, []), (440, .iload 4, 2, []), (442, .iconst 1, 1, []), (443, .iadd, 1, []), (444, .iaload, 1, []), (445, .aload_n 0, 1, []), (446, .iload 4, 2, []), (448, .iconst 2, 1, []), (449, .iadd, 1, []), (450, .iaload, 1, []), (451, .invokevirtual 143, 3, [1741, 1742, 1743, 110, 1744]), (454, .istore 6, 2, []), (456, .goto 1162, 3, []), (459, .aload_n 1, 1, []), (460, .aload_n 0, 1, []), (461, .iload 4, 2, []), (463, .iconst 1, 1, []), (464, .iadd, 1, []), (465, .iaload, 1, []), (466, .aload_n 0, 1, []), (467, .iload 4, 2, []), (469, .iconst 2, 1, []), (470, .iadd, 1, []), (471, .iaload, 1, []), (472, .aload_n 0, 1, []), (473, .iload 4, 2, []), (475, .iconst 3, 1, []), (476, .iadd, 1, []), (477, .iaload, 1, []), (478, .aload_n 3, 1, []), (479, .invokestatic 144, 3, [1067, 1068, 100, 1069]), (482, .istore 5, 2, []), (484, .aload_n 2, 1, []), (485, .aload_n 0, 1, []), (486, .iload 4, 2, []), (488, .iconst 1, 1, []), (489, .iadd, 1, []), (490, .iaload, 1, []), (491, .aload_n 0, 1, []), (492, .iload 4, 2, []), (494, .iconst 2, 1, []), (495, .iadd, 1, []), (496, .iaload, 1, []), (497, .aload_n 0, 1, []), (498, .iload 4, 2, []), (500, .iconst 3, 1, []), (501, .iadd, 1, []), (502, .iaload, 1, []), (503, .invokevirtual 147, 3, [1778, 1779, 1780, 110, 1781]), (506, .istore 6, 2, []), (508, .goto 1110, 3, []), (511, .aload_n 1, 1, []), (512, .aload_n 0, 1, []), (513, .iload 4, 2, []), (515, .iconst 1, 1, []), (516, .iadd, 1, []), (517, .iaload, 1, []), (518, .aload_n 0, 1, []), (519, .iload 4, 2, []), (521, .iconst 2, 1, []), (522, .iadd, 1, []), (523, .iaload, 1, []), (524, .aload_n 3, 1, []), (525, .invokestatic 148, 3, [1108, 1109, 100, 1110]), (528, .istore 5, 2, []), (530, .aload_n 2, 1, []), (531, .aload_n 0, 1, []), (532, .iload 4, 2, []), (534, .iconst 1, 1, []), (535, .iadd, 1, []), (536, .iaload, 1, []), (537, .aload_n 0, 1, []), (538, .iload 4, 2, []), (540, .iconst 2, 1, []), (541, .iadd, 1, []), (542, .iaload, 1, []), (543, .invokevirtual 150, 3, [1825, 1826, 1827, 110, 1828]), (546, .istore 6, 2, []), (548, .goto 1070, 3, []), (551, .aload_n 1, 1, []), (552, .aload_n 0, 1, []), (553, .iload 4, 2, []), (555, .iconst 1, 1, []), (556, .iadd, 1, []), (557, .iaload, 1, []), (558, .aload_n 0, 1, []), (559, .iload 4, 2, []), (561, .iconst 2, 1, []), (562, .iadd, 1, []), (563, .iaload, 1, []), (564, .aload_n 3, 1, []), (565, .invokestatic 151, 3, [1133, 1134, 100, 1135]), (568, .istore 5, 2, []), (570, .aload_n 2, 1, []), (571, .aload_n 0, 1, []), (572, .iload 4, 2, []), (574, .iconst 1, 1, []), (575, .iadd, 1, []), (576, .iaload, 1, []), (577, .aload_n 0, 1, []), (578, .iload 4, 2, []), (580, .iconst 2, 1, []), (581, .iadd, 1, []), (582, .iaload, 1, []), (583, .invokevirtual 153, 3, [1837, 1838, 1839, 110, 1840]), (586, .istore 6, 2, []), (588, .goto 1030, 3, []), (591, .aload_n 1, 1, []), (592, .aload_n 0, 1, []), (593, .iload 4, 2, []), (595, .iconst 1, 1, []), (596, .iadd, 1, []), (597, .iaload, 1, []), (598, .aload_n 0, 1, []), (599, .iload 4, 2, []), (601, .iconst 2, 1, []), (602, .iadd, 1, []), (603, .iaload, 1, []), (604, .aload_n 3, 1, []), (605, .invokestatic 154, 3, [1178, 1179, 100, 1180]), (608, .istore 5, 2, []), (610, .aload_n 2, 1, []), (611, .aload_n 0, 1, []), (612, .iload 4, 2, []), (614, .iconst 1, 1, []), (615, .iadd, 1, []), (616, .iaload, 1, []), (617, .aload_n 0, 1, []), (618, .iload 4, 2, []), (620, .iconst 2, 1, []), (621, .iadd, 1, []), (622, .iaload, 1, []), (623, .invokevirtual 156, 3, [1846, 1847, 1848, 110, 1849]), (626, .istore 6, 2, []), (628, .goto 990, 3, []), (631, .aload_n 1, 1, []), (632, .aload_n 0, 1, []), (633, .iload 4, 2, []), (635, .iconst 1, 1, []), (636, .iadd, 1, []), (637, .iaload, 1, []), (638, .aload_n 0, 1, []), (639, .iload 4, 2, []), (641, .iconst 2, 1, []), (642, .iadd, 1, []), (643, .iaload, 1, []), (644, .aload_n 3, 1, []), (645, .invokestatic 157, 3, [1185, 1186, 100, 1187]), (648, .istore 5, 2, []), (650, .aload_n 2, 1, []), (651, .aload_n 0, 1, []), (652, .iload 4, 2, []), (654, .iconst 1, 1, []), (655, .iadd, 1, []), (656, .iaload, 1, []), (657, .aload_n 0, 1, []), (658, .iload 4, 2, []), (660, .iconst 2, 1, []), (661, .iadd, 1, []), (662, .iaload, 1, []), (663, .invokevirtual 159, 3, [1850, 1851, 1852, 110, 1853]), (666, .istore 6, 2, []), (668, .goto 950, 3, []), (671, .aload_n 1, 1, []), (672, .aload_n 0, 1, []), (673, .iload 4, 2, []), (675, .iconst 1, 1, []), (676, .iadd, 1, []), (677, .iaload, 1, []), (678, .aload_n 3, 1, []), (679, .invokestatic 160, 3, [1192, 1193, 100, 1194]), (682, .istore 5, 2, []), (684, .aload_n 2, 1, []), (685, .aload_n 0, 1, []), (686, .iload 4, 2, []), (688, .iconst 1, 1, []), (689, .iadd, 1, []), (690, .iaload, 1, []), (691, .invokevirtual 162, 3, [1858, 1859, 1860, 110, 1861]), (694, .istore 6, 2, []), (696, .goto 922, 3, []), (699, .aload_n 1, 1, []), (700, .aload_n 0, 1, []), (701, .iload 4, 2, []), (703, .iconst 1, 1, []), (704, .iadd, 1, []), (705, .iaload, 1, []), (706, .aload_n 3, 1, []), (707, .invokestatic 163, 3, [1199, 1200, 100, 1201]), (710, .istore 5, 2, []), (712, .aload_n 2, 1, []), (713, .aload_n 0, 1, []), (714, .iload 4, 2, []), (716, .iconst 1, 1, []), (717, .iadd, 1, []), (718, .iaload, 1, []), (719, .invokevirtual 165, 3, [1862, 1863, 1864, 110, 1865]), (722, .istore 6, 2, []), (724, .goto 894, 3, []), (727, .aload_n 1, 1, []), (728, .aload_n 0, 1, []), (729, .iload 4, 2, []), (731, .iconst 1, 1, []), (732, .iadd, 1, []), (733, .iaload, 1, []), (734, .aload_n 3, 1, []), (735, .invokestatic 166, 3, [1208, 1209, 100, 1210]), (738, .istore 5, 2, []), (740, .aload_n 2, 1, []), (741, .aload_n 0, 1, []), (742, .iload 4, 2, []), (744, .iconst 1, 1, []), (745, .iadd, 1, []), (746, .iaload, 1, []), (747, .invokevirtual 168, 3, [1874, 1875, 1876, 110, 1877]), (750, .istore 6, 2, []), (752, .goto 866, 3, []), (755, .aload_n 1, 1, []), (756, .aload_n 3, 1, []), (757, .invokestatic 169, 3, [1219, 1220, 100, 1221]), (760, .istore 5, 2, []), (762, .aload_n 2, 1, []), (763, .invokevirtual 171, 3, [1878, 1879, 1880, 110, 1881]), (766, .istore 6, 2, []), (768, .goto 850, 3, []), (771, .aload_n 1, 1, []), (772, .invokevirtual 172, 3, [407, 408, 409, 101, 410]), (775, .pop, 1, []), (776, .aload_n 2, 1, []), (777, .invokevirtual 175, 3, [1882, 1883, 1884, 110, 1885]), (780, .pop, 1, []), (781, .goto 837, 3, []), (784, .aload_n 1, 1, []), (785, .aload_n 0, 1, []), (786, .iload 4, 2, []), (788, .iconst 1, 1, []), (789, .iadd, 1, []), (790, .iaload, 1, []), (791, .aload_n 3, 1, []), (792, .invokestatic 176, 3, [1226, 1227, 100, 1228]), (795, .istore 5, 2, []), (797, .aload_n 2, 1, []), (798, .aload_n 0, 1, []), (799, .iload 4, 2, []), (801, .iconst 1, 1, []), (802, .iadd, 1, []), (803, .iaload, 1, []), (804, .invokevirtual 178, 3, [1886, 1887, 1888, 110, 1889]), (807, .istore 6, 2, []), (809, .goto 809, 3, []), (812, .aload_n 1, 1, []), (813, .invokevirtual 179, 3, [440, 441, 442, 101, 443]), (816, .pop, 1, []), (817, .aload_n 2, 1, []), (818, .invokevirtual 182, 3, [1939, 1940, 1941, 110, 1942]), (821, .pop, 1, []), (822, .goto 796, 3, []), (825, .aload_n 1, 1, []), (826, .aload_n 0, 1, []), (827, .iload 4, 2, []), (829, .iconst 1, 1, []), (830, .iadd, 1, []), (831, .iaload, 1, []), (832, .aload_n 0, 1, []), (833, .iload 4, 2, []), (835, .iconst 2, 1, []), (836, .iadd, 1, []), (837, .iaload, 1, []), (838, .aload_n 3, 1, []), (839, .invokestatic 183, 3, [1276, 1277, 100, 1278]), (842, .istore 5, 2, []), (844, .aload_n 2, 1, []), (845, .aload_n 0, 1, []), (846, .iload 4, 2, []), (848, .iconst 1, 1, []), (849, .iadd, 1, []), (850, .iaload, 1, []), (851, .aload_n 0, 1, []), (852, .iload 4, 2, []), (854, .iconst 2, 1, []), (855, .iadd, 1, []), (856, .iaload, 1, []), (857, .invokevirtual 185, 3, [1943, 1944, 1945, 110, 1946]), (860, .istore 6, 2, []), (862, .goto 756, 3, []), (865, .aload_n 1, 1, []), (866, .invokevirtual 186, 3, [454, 455, 456, 101, 457]), (869, .pop, 1, []), (870, .aload_n 2, 1, []), (871, .invokevirtual 189, 3, [1959, 1960, 1961, 110, 1962]), (874, .pop, 1, []), (875, .goto 743, 3, []), (878, .aload_n 1, 1, []), (879, .invokevirtual 190, 3, [470, 471, 472, 101, 473]), (882, .pop, 1, []), (883, .aload_n 2, 1, []), (884, .invokevirtual 193, 3, [1983, 1984, 1985, 110, 1986]), (887, .pop, 1, []), (888, .goto 730, 3, []), (891, .aload_n 1, 1, []), (892, .invokevirtual 194, 3, [488, 489, 490, 101, 491]), (895, .pop, 1, []), (896, .aload_n 2, 1, []), (897, .invokevirtual 197, 3, [1999, 2000, 2001, 110, 2002]), (900, .pop, 1, []), (901, .goto 717, 3, []), (904, .aload_n 1, 1, []), (905, .invokevirtual 198, 3, [509, 510, 511, 101, 512]), (908, .pop, 1, []), (909, .aload_n 2, 1, []), (910, .invokevirtual 201, 3, [1967, 1968, 1969, 110, 1970]), (913, .pop, 1, []), (914, .goto 704, 3, []), (917, .aload_n 1, 1, []), (918, .aload_n 0, 1, []), (919, .iload 4, 2, []), (921, .iconst 1, 1, []), (922, .iadd, 1, []), (923, .iaload, 1, []), (924, .invokevirtual 202, 3, [517, 518, 519, 101, 520]), (927, .pop, 1, []), (928, .aload_n 2, 1, []), (929, .aload_n 0, 1, []), (930, .iload 4, 2, []), (932, .iconst 1, 1, []), (933, .iadd, 1, []), (934, .iaload, 1, []), (935, .invokevirtual 205, 3, [2007, 2008, 2009, 110, 2010]), (938, .pop, 1, []), (939, .goto 679, 3, []), (942, .aload_n 1, 1, []), (943, .aload_n 0, 1, []), (944, .iload 4, 2, []), (946, .iconst 1, 1, []), (947, .iadd, 1, []), (948, .iaload, 1, []), (949, .aload_n 0, 1, []), (950, .iload 4, 2, []), (952, .iconst 2, 1, []), (953, .iadd, 1, []), (954, .iaload, 1, []), (955, .aload_n 3, 1, []), (956, .invokestatic 206, 3, [1284, 1285, 100, 1286]), (959, .istore 5, 2, []), (961, .aload_n 2, 1, []), (962, .aload_n 0, 1, []), (963, .iload 4, 2, []), (965, .iconst 1, 1, []), (966, .iadd, 1, []), (967, .iaload, 1, []), (968, .aload_n 0, 1, []), (969, .iload 4, 2, []), (971, .iconst 2, 1, []), (972, .iadd, 1, []), (973, .iaload, 1, []), (974, .invokevirtual 208, 3, [2019, 2020, 2021, 110, 2022]), (977, .istore 6, 2, []), (979, .goto 639, 3, []), (982, .aload_n 1, 1, []), (983, .aload_n 0, 1, []), (984, .iload 4, 2, []), (986, .iconst 1, 1, []), (987, .iadd, 1, []), (988, .iaload, 1, []), (989, .aload_n 3, 1, []), (990, .invokestatic 209, 3, [1300, 1301, 100, 1302]), (993, .istore 5, 2, []), (995, .aload_n 2, 1, []), (996, .aload_n 0, 1, []), (997, .iload 4, 2, []), (999, .iconst 1, 1, []), (1000, .iadd, 1, []), (1001, .iaload, 1, []), (1002, .invokevirtual 211, 3, [1971, 1972, 1973, 110, 1974]), (1005, .istore 6, 2, []), (1007, .goto 611, 3, []), (1010, .aload_n 1, 1, []), (1011, .aload_n 0, 1, []), (1012, .iload 4, 2, []), (1014, .iconst 1, 1, []), (1015, .iadd, 1, []), (1016, .iaload, 1, []), (1017, .aload_n 0, 1, []), (1018, .iload 4, 2, []), (1020, .iconst 2, 1, []), (1021, .iadd, 1, []), (1022, .iaload, 1, []), (1023, .aload_n 0, 1, []), (1024, .iload 4, 2, []), (1026, .iconst 3, 1, []), (1027, .iadd, 1, []), (1028, .iaload, 1, []), (1029, .aload_n 3, 1, []), (1030, .invokestatic 212, 3, [1317, 1318, 100, 1319]), (1033, .istore 5, 2, []), (1035, .aload_n 2, 1, []), (1036, .aload_n 0, 1, []), (1037, .iload 4, 2, []), (1039, .iconst 1, 1, []), (1040, .iadd, 1, []), (1041, .iaload, 1, []), (1042, .aload_n 0, 1, []), (1043, .iload 4, 2, []), (1045, .iconst 2, 1, []), (1046, .iadd, 1, []), (1047, .iaload, 1, []), (1048, .aload_n 0, 1, []), (1049, .iload 4, 2, []), (1051, .iconst 3, 1, []), (1052, .iadd, 1, []), (1053, .iaload, 1, []), (1054, .invokevirtual 214, 3, [2026, 2027, 2028, 110, 2029]), (1057, .istore 6, 2, []), (1059, .goto 559, 3, []), (1062, .aload_n 1, 1, []), (1063, .aload_n 0, 1, []), (1064, .iload 4, 2, []), (1066, .iconst 1, 1, []), (1067, .iadd, 1, []), (1068, .iaload, 1, []), (1069, .ifCond .eq 7, 3, []), (1072, .iconst 1, 1, []), (1073, .goto 4, 3, []), (1076, .iconst 0, 1, []), (1077, .aload_n 3, 1, []), (1078, .invokestatic 215, 3, [1334, 1335, 100, 1336]), (1081, .istore 5, 2, []), (1083, .aload_n 2, 1, []), (1084, .aload_n 0, 1, []), (1085, .iload 4, 2, []), (1087, .iconst 1, 1, []), (1088, .iadd, 1, []), (1089, .iaload, 1, []), (1090, .ifCond .eq 7, 3, []), (1093, .iconst 1, 1, []), (1094, .goto 4, 3, []), (1097, .iconst 0, 1, []), (1098, .invokevirtual 218, 3, [2034, 2035, 2036, 110, 2037]), (1101, .istore 6, 2, []), (1103, .goto 515, 3, []), (1106, .aload_n 1, 1, []), (1107, .invokevirtual 219, 3, [529, 530, 531, 101, 532]), (1110, .pop, 1, []), (1111, .aload_n 2, 1, []), (1112, .invokevirtual 222, 3, [2042, 2043, 2044, 110, 2045]), (1115, .pop, 1, []), (1116, .goto 502, 3, []), (1119, .aload_n 1, 1, []), (1120, .invokevirtual 223, 3, [542, 543, 544, 101, 545]), (1123, .pop, 1, []), (1124, .aload_n 2, 1, []), (1125, .invokevirtual 226, 3, [1955, 1956, 1957, 110, 1958]), (1128, .pop, 1, []), (1129, .goto 489, 3, []), (1132, .aload_n 1, 1, []), (1133, .aload_n 0, 1, []), (1134, .iload 4, 2, []), (1136, .iconst 1, 1, []), (1137, .iadd, 1, []), (1138, .iaload, 1, []), (1139, .aload_n 3, 1, []), (1140, .invokestatic 227, 3, [1358, 1359, 100, 1360]), (1143, .istore 5, 2, []), (1145, .aload_n 2, 1, []), (1146, .aload_n 0, 1, []), (1147, .iload 4, 2, []), (1149, .iconst 1, 1, []), (1150, .iadd, 1, []), (1151, .iaload, 1, []), (1152, .invokevirtual 229, 3, [1979, 1980, 1981, 110, 1982]), (1155, .istore 6, 2, []), (1157, .goto 461, 3, []), (1160, .aload_n 1, 1, []), (1161, .invokevirtual 230, 3, [555, 556, 557, 101, 558]), (1164, .pop, 1, []), (1165, .aload_n 2, 1, []), (1166, .invokevirtual 233, 3, [1963, 1964, 1965, 110, 1966]), (1169, .pop, 1, []), (1170, .goto 448, 3, []), (1173, .aload_n 1, 1, []), (1174, .aload_n 0, 1, []), (1175, .iload 4, 2, []), (1177, .iconst 1, 1, []), (1178, .iadd, 1, []), (1179, .iaload, 1, []), (1180, .aload_n 0, 1, []), (1181, .iload 4, 2, []), (1183, .iconst 2, 1, []), (1184, .iadd, 1, []), (1185, .iaload, 1, []), (1186, .aload_n 3, 1, []), (1187, .invokestatic 234, 3, [1371, 1372, 100, 1373]), (1190, .istore 5, 2, []), (1192, .aload_n 2, 1, []), (1193, .aload_n 0, 1, []), (1194, .iload 4, 2, []), (1196, .iconst 1, 1, []), (1197, .iadd, 1, []), (1198, .iaload, 1, []), (1199, .aload_n 0, 1, []), (1200, .iload 4, 2, []), (1202, .iconst 2, 1, []), (1203, .iadd, 1, []), (1204, .iaload, 1, []), (1205, .invokevirtual 236, 3, [1915, 1916, 1917, 110, 1918]), (1208, .istore 6, 2, []), (1210, .goto 408, 3, []), (1213, .aload_n 1, 1, []), (1214, .aload_n 0, 1, []), (1215, .iload 4, 2, []), (1217, .iconst 1, 1, []), (1218, .iadd, 1, []), (1219, .iaload, 1, []), (1220, .aload_n 3, 1, []), (1221, .invokestatic 237, 3, [1378, 1379, 100, 1380]), (1224, .istore 5, 2, []), (1226, .aload_n 2, 1, []), (1227, .aload_n 0, 1, []), (1228, .iload 4, 2, []), (1230, .iconst 1, 1, []), (1231, .iadd, 1, []), (1232, .iaload, 1, []), (1233, .invokevirtual 239, 3, [1927, 1928, 1929, 110, 1930]), (1236, .istore 6, 2, []), (1238, .goto 380, 3, []), (1241, .aload_n 1, 1, []), (1242, .aload_n 0, 1, []), (1243, .iload 4, 2, []), (1245, .iconst 1, 1, []), (1246, .iadd, 1, []), (1247, .iaload, 1, []), (1248, .aload_n 3, 1, []), (1249, .invokestatic 240, 3, [1385, 1386, 100, 1387]), (1252, .istore 5, 2, []), (1254, .aload_n 2, 1, []), (1255, .aload_n 0, 1, []), (1256, .iload 4, 2, []), (1258, .iconst 1, 1, []), (1259, .iadd, 1, []), (1260, .iaload, 1, []), (1261, .invokevirtual 242, 3, [1931, 1932, 1933, 110, 1934]), (1264, .istore 6, 2, []), (1266, .goto 352, 3, []), (1269, .aload_n 1, 1, []), (1270, .aload_n 0, 1, []), (1271, .iload 4, 2, []), (1273, .iconst 1, 1, []), (1274, .iadd, 1, []), (1275, .iaload, 1, []), (1276, .aload_n 3, 1, []), (1277, .invokestatic 243, 3, [1392, 1393, 100, 1394]), (1280, .istore 5, 2, []), (1282, .aload_n 2, 1, []), (1283, .aload_n 0, 1, []), (1284, .iload 4, 2, []), (1286, .iconst 1, 1, []), (1287, .iadd, 1, []), (1288, .iaload, 1, []), (1289, .invokevirtual 245, 3, [1935, 1936, 1937, 110, 1938]), (1292, .istore 6, 2, []), (1294, .goto 324, 3, []), (1297, .aload_n 1, 1, []), (1298, .invokevirtual 246, 3, [562, 563, 564, 101, 565]), (1301, .pop, 1, []), (1302, .aload_n 2, 1, []), (1303, .invokevirtual 249, 3, [2046, 2047, 2048, 110, 2049]), (1306, .pop, 1, []), (1307, .goto 311, 3, []), (1310, .aload_n 1, 1, []), (1311, .invokevirtual 250, 3, [569, 570, 571, 101, 572]), (1314, .pop, 1, []), (1315, .aload_n 2, 1, []), (1316, .invokevirtual 253, 3, [2050, 2051, 2052, 110, 2053]), (1319, .pop, 1, []), (1320, .goto 298, 3, []), (1323, .aload_n 1, 1, []), (1324, .aload_n 0, 1, []), (1325, .iload 4, 2, []), (1327, .iconst 1, 1, []), (1328, .iadd, 1, []), (1329, .iaload, 1, []), (1330, .aload_n 0, 1, []), (1331, .iload 4, 2, []), (1333, .iconst 2, 1, []), (1334, .iadd, 1, []), (1335, .iaload, 1, []), (1336, .ifCond .eq 7, 3, []), (1339, .iconst 1, 1, []), (1340, .goto 4, 3, []), (1343, .iconst 0, 1, []), (1344, .aload_n 3, 1, []), (1345, .invokestatic 254, 3, [1399, 1400, 100, 1401]), (1348, .istore 5, 2, []), (1350, .aload_n 2, 1, []), (1351, .aload_n 0, 1, []), (1352, .iload 4, 2, []), (1354, .iconst 1, 1, []), (1355, .iadd, 1, []), (1356, .iaload, 1, []), (1357, .aload_n 0, 1, []), (1358, .iload 4, 2, []), (1360, .iconst 2, 1, []), (1361, .iadd, 1, []), (1362, .iaload, 1, []), (1363, .ifCond .eq 7, 3, []), (1366, .iconst 1, 1, []), (1367, .goto 4, 3, []), (1370, .iconst 0, 1, []), (1371, .invokevirtual 257, 3, [2054, 2055, 2056, 110, 2057]), (1374, .istore 6, 2, []), (1376, .goto 242, 3, []), (1379, .aload_n 1, 1, []), (1380, .aload_n 0, 1, []), (1381, .iload 4, 2, []), (1383, .iconst 1, 1, []), (1384, .iadd, 1, []), (1385, .iaload, 1, []), (1386, .aload_n 0, 1, []), (1387, .iload 4, 2, []), (1389, .iconst 2, 1, []), (1390, .iadd, 1, []), (1391, .iaload, 1, []), (1392, .ifCond .eq 7, 3, []), (1395, .iconst 1, 1, []), (1396, .goto 4, 3, []), (1399, .iconst 0, 1, []), (1400, .aload_n 3, 1, []), (1401, .invokestatic 258, 3, [1414, 1415, 100, 1416]), (1404, .istore 5, 2, []), (1406, .aload_n 2, 1, []), (1407, .aload_n 0, 1, []), (1408, .iload 4, 2, []), (1410, .iconst 1, 1, []), (1411, .iadd, 1, []), (1412, .iaload, 1, []), (1413, .aload_n 0, 1, []), (1414, .iload 4, 2, []), (1416, .iconst 2, 1, []), (1417, .iadd, 1, []), (1418, .iaload, 1, []), (1419, .ifCond .eq 7, 3, []), (1422, .iconst 1, 1, []), (1423, .goto 4, 3, []), (1426, .iconst 0, 1, []), (1427, .invokevirtual 260, 3, [2062, 2063, 2064, 110, 2065]), (1430, .istore 6, 2, []), (1432, .goto 186, 3, []), (1435, .aload_n 1, 1, []), (1436, .aload_n 0, 1, []), (1437, .iload 4, 2, []), (1439, .iconst 1, 1, []), (1440, .iadd, 1, []), (1441, .iaload, 1, []), (1442, .aload_n 0, 1, []), (1443, .iload 4, 2, []), (1445, .iconst 2, 1, []), (1446, .iadd, 1, []), (1447, .iaload, 1, []), (1448, .ifCond .eq 7, 3, []), (1451, .iconst 1, 1, []), (1452, .goto 4, 3, []), (1455, .iconst 0, 1, []), (1456, .aload_n 3, 1, []), (1457, .invokestatic 261, 3, [1423, 1424, 100, 1425]), (1460, .istore 5, 2, []), (1462, .aload_n 2, 1, []), (1463, .aload_n 0, 1, []), (1464, .iload 4, 2, []), (1466, .iconst 1, 1, []), (1467, .iadd, 1, []), (1468, .iaload, 1, []), (1469, .aload_n 0, 1, []), (1470, .iload 4, 2, []), (1472, .iconst 2, 1, []), (1473, .iadd, 1, []), (1474, .iaload, 1, []), (1475, .ifCond .eq 7, 3, []), (1478, .iconst 1, 1, []), (1479, .goto 4, 3, []), (1482, .iconst 0, 1, []), (1483, .invokevirtual 263, 3, [2066, 2067, 2068, 110, 2069]), (1486, .istore 6, 2, []), (1488, .goto 130, 3, []), (1491, .aload_n 1, 1, []), (1492, .aload_n 0, 1, []), (1493, .iload 4, 2, []), (1495, .iconst 1, 1, []), (1496, .iadd, 1, []), (1497, .iaload, 1, []), (1498, .aload_n 0, 1, []), (1499, .iload 4, 2, []), (1501, .iconst 2, 1, []), (1502, .iadd, 1, []), (1503, .iaload, 1, []), (1504, .aload_n 3, 1, []), (1505, .invokestatic 264, 3, [1443, 1444, 100, 1445]), (1508, .istore 5, 2, []), (1510, .aload_n 2, 1, []), (1511, .aload_n 0, 1, []), (1512, .iload 4, 2, []), (1514, .iconst 1, 1, []), (1515, .iadd, 1, []), (1516, .iaload, 1, []), (1517, .aload_n 0, 1, []), (1518, .iload 4, 2, []), (1520, .iconst 2, 1, []), (1521, .iadd, 1, []), (1522, .iaload, 1, []), (1523, .invokevirtual 266, 3, [2074, 2075, 2076, 110, 2077]), (1526, .istore 6, 2, []), (1528, .goto 90, 3, []), (1531, .aload_n 1, 1, []), (1532, .aload_n 0, 1, []), (1533, .iload 4, 2, []), (1535, .iconst 1, 1, []), (1536, .iadd, 1, []), (1537, .iaload, 1, []), (1538, .invokevirtual 267, 3, [582, 583, 584, 101, 585]), (1541, .pop, 1, []), (1542, .aload_n 2, 1, []), (1543, .aload_n 0, 1, []), (1544, .iload 4, 2, []), (1546, .iconst 1, 1, []), (1547, .iadd, 1, []), (1548, .iaload, 1, []), (1549, .invokevirtual 270, 3, [2078, 2079, 2080, 110, 2081]), (1552, .pop, 1, []), (1553, .goto 65, 3, []), (1556, .aload_n 1, 1, []), (1557, .invokevirtual 271, 3, [586, 587, 588, 101, 589]), (1560, .pop, 1, []), (1561, .aload_n 2, 1, []), (1562, .invokevirtual 275, 3, [1535, 1536, 1537, 110, 1538]), (1565, .pop, 1, []), (1566, .goto 52, 3, []), (1569, .aload_n 1, 1, []), (1570, .invokevirtual 276, 3, [594, 595, 596, 101, 597]), (1573, .aload_n 2, 1, []), (1574, .invokevirtual 279, 3, [1527, 1528, 1529, 110, 1530]), (1577, .goto 41, 3, []), (1580, .aload_n 1, 1, []), (1581, .invokevirtual 280, 3, [599, 600, 601, 101, 602]), (1584, .pop, 1, []), (1585, .aload_n 2, 1, []), (1586, .invokevirtual 283, 3, [1531, 1532, 1533, 110, 1534]), (1589, .pop, 1, []), (1590, .goto 28, 3, []), (1593, .aload_n 1, 1, []), (1594, .aload_n 0, 1, []), (1595, .iload 4, 2, []), (1597, .iconst 1, 1, []), (1598, .iadd, 1, []), (1599, .iaload, 1, []), (1600, .invokevirtual 284, 3, [607, 608, 609, 101, 610]), (1603, .pop, 1, []), (1604, .aload_n 2, 1, []), (1605, .aload_n 0, 1, []), (1606, .iload 4, 2, []), (1608, .iconst 1, 1, []), (1609, .iadd, 1, []), (1610, .iaload, 1, []), (1611, .invokevirtual 287, 3, [2082, 2083, 2084, 110, 2085]), (1614, .pop, 1, []), (1615, .goto 3, 3, []), (1618, .iinc 4 6, 3, []), (1621, .goto (-1598), 3, []), (1624, .iconst 1, 1, []), (1625, .ireturn, 1, [])]
def z_h343 : List (Nat × Nat × Nat × Nat × Nat × Nat × Nat) := []
def z_df : List (List Value) := [[.null, .null, .null, .null, .int 0], [.null, .null, .null, .null, .null, .null, .int 0, .int 0, .int 0, .int 0, .int 0, .int 0, .int 0, .int 0, .int 0, .int 0, .int 0, .int 0], [.int 0, .null, .null, .null, .null, .null], [.null, .null, .null, .null, .int 0, .int 0], [.null, .int 0, .int 0], [.null, .int 0, .int 0], [.null, .int 0, .int 0, .int 0], [.null, .null, .int 0, .int 0], [.null, .null, .null, .null, .null, .null, .int 0, .int 0], [.int 0, .null, .null, .null, .null, .null, .int 0, .int 0, .null, .int 0, .int 0, .int 0, .int 0, .int 0, .int 0, .null, .int 0, .null, .null, .null, .null, .null, .int 0]]
def z_lp0 : List Nat := [212, 214, 216, 218, 220]
def z_lp1 : List Nat := [309, 311, 313, 315, 317, 319, 321, 323, 325, 327, 329, 331, 333, 335, 337, 339, 341, 343]
def z_lp2 : List Nat := [977, 979, 981, 983, 985, 987]
def z_lp3 : List Nat := [171, 173, 175, 177, 179, 181]
def z_lp4 : List Nat := [259, 261, 263]
def z_lp5 : List Nat := [359, 361, 363]
def z_lp6 : List Nat := [149, 151, 153, 155]
def z_lp7 : List Nat := [240, 242, 244, 246]
def z_lp8 : List Nat := [374, 376, 378, 380, 382, 384, 386, 388]
def z_lp9 : List Nat := [1480, 1482, 1484, 1486, 1488, 1490, 1492, 1494, 1496, 1498, 1500, 1502, 1504, 1506, 1508, 1510, 1512, 1514, 1516, 1518, 1520, 1522, 1524]
def z_ms_0 : List (zMi) := [z_m0, z_m1, z_m2, z_m3, z_m4, z_m5, z_m6, z_m7, z_m8, z_m9, z_m10, z_m11, z_m12, z_m13, z_m14, z_m15, z_m16, z_m17, z_m18, z_m19, z_m20, z_m21, z_m22, z_m23, z_m24, z_m25, z_m26, z_m27, z_m28, z_m29, z_m30, z_m31, z_m32, z_m33, z_m34, z_m35, z_m36, z_m37, z_m38, z_m39, z_m40, z_m41, z_m42]
def z_ms_1 : List (zMi) := [z_m43, z_m44, z_m45, z_m46, z_m47, z_m48, z_m49, z_m50, z_m51, z_m52, z_m53, z_m54, z_m55, z_m56, z_m57, z_m58, z_m59, z_m60, z_m61, z_m62, z_m63, z_m64, z_m65, z_m66, z_m67, z_m68, z_m69, z_m70, z_m71, z_m72, z_m73, z_m74, z_m75, z_m76, z_m77, z_m78, z_m79, z_m80, z_m81, z_m82, z_m83, z_m84, z_m85]
def z_ms_2 : List (zMi) := [z_m86, z_m87, z_m88, z_m89, z_m90, z_m91, z_m92, z_m93, z_m94, z_m95, z_m96, z_m97, z_m98, z_m99, z_m100, z_m101, z_m102, z_m103, z_m104, z_m105, z_m106, z_m107, z_m108, z_m109, z_m110, z_m111, z_m112, z_m113, z_m114, z_m115, z_m116, z_m117, z_m118, z_m119, z_m120, z_m121, z_m122, z_m123, z_m124, z_m125, z_m126, z_m127, z_m128]
def z_ms_3 : List (zMi) := [z_m129, z_m130, z_m131, z_m132, z_m133, z_m134, z_m135, z_m136, z_m137, z_m138, z_m139, z_m140, z_m141, z_m142, z_m143, z_m144, z_m145, z_m146, z_m147, z_m148, z_m149, z_m150, z_m151, z_m152, z_m153, z_m154, z_m155, z_m156, z_m157, z_m158, z_m159, z_m160, z_m161, z_m162, z_m163, z_m164, z_m165, z_m166, z_m167, z_m168, z_m169, z_m170, z_m171]
def z_ms_4 : List (zMi) := [z_m172, z_m173, z_m174, z_m175, z_m176, z_m177, z_m178, z_m179, z_m180, z_m181, z_m182, z_m183, z_m184, z_m185, z_m186, z_m187, z_m188, z_m189, z_m190, z_m191, z_m192, z_m193, z_m194, z_m195, z_m196, z_m197, z_m198, z_m199, z_m200, z_m201, z_m202, z_m203, z_m204, z_m205, z_m206, z_m207, z_m208, z_m209, z_m210, z_m211, z_m212, z_m213, z_m214]
def z_ms_5 : List (zMi) := [z_m215, z_m216, z_m217, z_m218, z_m219, z_m220, z_m221, z_m222, z_m223, z_m224, z_m225, z_m226, z_m227, z_m228, z_m229, z_m230, z_m231, z_m232, z_m233, z_m234, z_m235, z_m236, z_m237, z_m238, z_m239, z_m240, z_m241, z_m242, z_m243, z_m244, z_m245, z_m246, z_m247, z_m248, z_m249, z_m250, z_m251, z_m252, z_m253, z_m254, z_m255, z_m256, z_m257]
def z_ms_6 : List (zMi) := [z_m258, z_m259, z_m260, z_m261, z_m262, z_m263, z_m264, z_m265, z_m266, z_m267, z_m268, z_m269, z_m270, z_m271, z_m272, z_m273, z_m274, z_m275, z_m276, z_m277, z_m278, z_m279, z_m280, z_m281, z_m282, z_m283, z_m284, z_m285, z_m286, z_m287, z_m288, z_m289, z_m290, z_m291, z_m292, z_m293, z_m294, z_m295, z_m296, z_m297, z_m298, z_m299, z_m300]
def z_ms_7 : List (zMi) := [z_m301, z_m302, z_m303, z_m304, z_m305, z_m306, z_m307, z_m308, z_m309, z_m310, z_m311, z_m312, z_m313, z_m314, z_m315, z_m316, z_m317, z_m318, z_m319, z_m320, z_m321, z_m322, z_m323, z_m324, z_m325, z_m326, z_m327, z_m328, z_m329, z_m330, z_m331, z_m332, z_m333, z_m334, z_m335, z_m336, z_m337, z_m338, z_m339, z_m340, z_m341, z_m342, z_m343]
def z_ms : List (zMi) := z_ms_0 ++ (z_ms_1 ++ (z_ms_2 ++ (z_ms_3 ++ (z_ms_4 ++ (z_ms_5 ++ (z_ms_6 ++ (z_ms_7)))))))
def z_cs_0 : List (List zI) := [z_c0, z_c1, z_c2, z_c3, z_c4, z_c5, z_c6, z_c7, z_c8, z_c9, z_c10, z_c11, z_c12, z_c13, z_c14, z_c15, z_c16, z_c17, z_c18, z_c19, z_c20, z_c21, z_c22, z_c23, z_c24, z_c25, z_c26, z_c27, z_c28, z_c29, z_c30, z_c31, z_c32, z_c33, z_c34, z_c35, z_c36, z_c37, z_c38, z_c39, z_c40, z_c41, z_c42]
def z_cs_1 : List (List zI) := [z_c43, z_c44, z_c45, z_c46, z_c47, z_c48, z_c49, z_c50, z_c51, z_c52, z_c53, z_c54, z_c55, z_c56, z_c57, z_c58, z_c59, z_c60, z_c61, z_c62, z_c63, z_c64, z_c65, z_c66, z_c67, z_c68, z_c69, z_c70, z_c71, z_c72, z_c73, z_c74, z_c75, z_c76, z_c77, z_c78, z_c79, z_c80, z_c81, z_c82, z_c83, z_c84, z_c85]
def z_cs_2 : List (List zI) := [z_c86, z_c87, z_c88, z_c89, z_c90, z_c91, z_c92, z_c93, z_c94, z_c95, z_c96, z_c97, z_c98, z_c99, z_c100, z_c101, z_c102, z_c103, z_c104, z_c105, z_c106, z_c107, z_c108, z_c109, z_c110, z_c111, z_c112, z_c113, z_c114, z_c115, z_c116, z_c117, z_c118, z_c119, z_c120, z_c121, z_c122, z_c123, z_c124, z_c125, z_c126, z_c127, z_c128]
def z_cs_3 : List (List zI) := [z_c129, z_c130, z_c131, z_c132, z_c133, z_c134, z_c135, z_c136, z_c137, z_c138, z_c139, z_c140, z_c141, z_c142, z_c143, z_c144, z_c145, z_c146, z_c147, z_c148, z_c149, z_c150, z_c151, z_c152, z_c153, z_c154, z_c155, z_c156, z_c157, z_c158, z_c159, z_c160, z_c161, z_c162, z_c163, z_c164, z_c165, z_c166, z_c167, z_c168, z_c169, z_c170, z_c171]
def z_cs_4 : List (List zI) := [z_c172, z_c173, z_c174, z_c175, z_c176, z_c177, z_c178, z_c179, z_c180, z_c181, z_c182, z_c183, z_c184, z_c185, z_c186, z_c187, z_c188, z_c189, z_c190, z_c191, z_c192, z_c193, z_c194, z_c195, z_c196, z_c197, z_c198, z_c199, z_c200, z_c201, z_c202, z_c203, z_c204, z_c205, z_c206, z_c207, z_c208, z_c209, z_c210, z_c211, z_c212, z_c213, z_c214]
def z_cs_5 : List (List zI) := [z_c215, z_c216, z_c217, z_c218, z_c219, z_c220, z_c221, z_c222, z_c223, z_c224, z_c225, z_c226, z_c227, z_c228, z_c229, z_c230, z_c231, z_c232, z_c233, z_c234, z_c235, z_c236, z_c237, z_c238, z_c239, z_c240, z_c241, z_c242, z_c243, z_c244, z_c245, z_c246, z_c247, z_c248, z_c249, z_c250, z_c251, z_c252, z_c253, z_c254, z_c255, z_c256, z_c257]
def z_cs_6 : List (List zI) := [z_c258, z_c259, z_c260, z_c261, z_c262, z_c263, z_c264, z_c265, z_c266, z_c267, z_c268, z_c269, z_c270, z_c271, z_c272, z_c273, z_c274, z_c275, z_c276, z_c277, z_c278, z_c279, z_c280, z_c281, z_c282, z_c283, z_c284, z_c285, z_c286, z_c287, z_c288, z_c289, z_c290, z_c291, z_c292, z_c293, z_c294, z_c295, z_c296, z_c297, z_c298, z_c299, z_c300]
def z_cs_7 : List (List zI) := [z_c301, z_c302, z_c303, z_c304, z_c305, z_c306, z_c307, z_c308, z_c309, z_c310, z_c311, z_c312, z_c313, z_c314, z_c315, z_c316, z_c317, z_c318, z_c319, z_c320, z_c321, z_c322, z_c323, z_c324, z_c325, z_c326, z_c327, z_c328, z_c329, z_c330, z_c331, z_c332, z_c333, z_c334, z_c335, z_c336, z_c337, z_c338, z_c339, z_c340, z_c341, z_c342, z_c343]
def z_cs : List (List zI) := z_cs_0 ++ (z_cs_1 ++ (z_cs_2 ++ (z_cs_3 ++ (z_cs_4 ++ (z_cs_5 ++ (z_cs_6 ++ (z_cs_7)))))))
def z_is_0 : List (List zJ) := [z_i0, z_i1, z_i2, z_i3, z_i4, z_i5, z_i6, z_i7, z_i8, z_i9, z_i10, z_i11, z_i12, z_i13, z_i14, z_i15, z_i16, z_i17, z_i18, z_i19, z_i20, z_i21, z_i22, z_i23, z_i24, z_i25, z_i26, z_i27, z_i28, z_i29, z_i30, z_i31, z_i32, z_i33, z_i34, z_i35, z_i36, z_i37, z_i38, z_i39, z_i40, z_i41, z_i42]
def z_is_1 : List (List zJ) := [z_i43, z_i44, z_i45, z_i46, z_i47, z_i48, z_i49, z_i50, z_i51, z_i52, z_i53, z_i54, z_i55, z_i56, z_i57, z_i58, z_i59, z_i60, z_i61, z_i62, z_i63, z_i64, z_i65, z_i66, z_i67, z_i68, z_i69, z_i70, z_i71, z_i72, z_i73, z_i74, z_i75, z_i76, z_i77, z_i78, z_i79, z_i80, z_i81, z_i82, z_i83, z_i84, z_i85]
def z_is_2 : List (List zJ) := [z_i86, z_i87, z_i88, z_i89, z_i90, z_i91, z_i92, z_i93, z_i94, z_i95, z_i96, z_i97, z_i98, z_i99, z_i100, z_i101, z_i102, z_i103, z_i104, z_i105, z_i106, z_i107, z_i108, z_i109, z_i110, z_i111, z_i112, z_i113, z_i114, z_i115, z_i116, z_i117, z_i118, z_i119, z_i120, z_i121, z_i122, z_i123, z_i124, z_i125, z_i126, z_i127, z_i128]
def z_is_3 : List (List zJ) := [z_i129, z_i130, z_i131, z_i132, z_i133, z_i134, z_i135, z_i136, z_i137, z_i138, z_i139, z_i140, z_i141, z_i142, z_i143, z_i144, z_i145, z_i146, z_i147, z_i148, z_i149, z_i150, z_i151, z_i152, z_i153, z_i154, z_i155, z_i156, z_i157, z_i158, z_i159, z_i160, z_i161, z_i162, z_i163, z_i164, z_i165, z_i166, z_i167, z_i168, z_i169, z_i170, z_i171]
def z_is_4 : List (List zJ) := [z_i172, z_i173, z_i174, z_i175, z_i176, z_i177, z_i178, z_i179, z_i180, z_i181, z_i182, z_i183, z_i184, z_i185, z_i186, z_i187, z_i188, z_i189, z_i190, z_i191, z_i192, z_i193, z_i194, z_i195, z_i196, z_i197, z_i198, z_i199, z_i200, z_i201, z_i202, z_i203, z_i204, z_i205, z_i206, z_i207, z_i208, z_i209, z_i210, z_i211, z_i212, z_i213, z_i214]
def z_is_5 : List (List zJ) := [z_i215, z_i216, z_i217, z_i218, z_i219, z_i220, z_i221, z_i222, z_i223, z_i224, z_i225, z_i226, z_i227, z_i228, z_i229, z_i230, z_i231, z_i232, z_i233, z_i234, z_i235, z_i236, z_i237, z_i238, z_i239, z_i240, z_i241, z_i242, z_i243, z_i244, z_i245, z_i246, z_i247, z_i248, z_i249, z_i250, z_i251, z_i252, z_i253, z_i254, z_i255, z_i256, z_i257]
def z_is_6 : List (List zJ) := [z_i258, z_i259, z_i260, z_i261, z_i262, z_i263, z_i264, z_i265, z_i266, z_i267, z_i268, z_i269, z_i270, z_i271, z_i272, z_i273, z_i274, z_i275, z_i276, z_i277, z_i278, z_i279, z_i280, z_i281, z_i282, z_i283, z_i284, z_i285, z_i286, z_i287, z_i288, z_i289, z_i290, z_i291, z_i292, z_i293, z_i294, z_i295, z_i296, z_i297, z_i298, z_i299, z_i300]
def z_is_7 : List (List zJ) := [z_i301, z_i302, z_i303, z_i304, z_i305, z_i306, z_i307, z_i308, z_i309, z_i310, z_i311, z_i312, z_i313, z_i314, z_i315, z_i316, z_i317, z_i318, z_i319, z_i320, z_i321, z_i322, z_i323, z_i324, z_i325, z_i326, z_i327, z_i328, z_i329, z_i330, z_i331, z_i332, z_i333, z_i334, z_i335, z_i336, z_i337, z_i338, z_i339, z_i340, z_i341, z_i342, z_i343]
def z_is : List (List zJ) := z_is_0 ++ (z_is_1 ++ (z_is_2 ++ (z_is_3 ++ (z_is_4 ++ (z_is_5 ++ (z_is_6 ++ (z_is_7)))))))
def z_hs_0 : List (List (Nat × Nat × Nat × Nat × Nat × Nat × Nat)) := [z_h0, z_h1, z_h2, z_h3, z_h4, z_h5, z_h6, z_h7, z_h8, z_h9, z_h10, z_h11, z_h12, z_h13, z_h14, z_h15, z_h16, z_h17, z_h18, z_h19, z_h20, z_h21, z_h22, z_h23, z_h24, z_h25, z_h26, z_h27, z_h28, z_h29, z_h30, z_h31, z_h32, z_h33, z_h34, z_h35, z_h36, z_h37, z_h38, z_h39, z_h40, z_h41, z_h42]
def z_hs_1 : List (List (Nat × Nat × Nat × Nat × Nat × Nat × Nat)) := [z_h43, z_h44, z_h45, z_h46, z_h47, z_h48, z_h49, z_h50, z_h51, z_h52, z_h53, z_h54, z_h55, z_h56, z_h57, z_h58, z_h59, z_h60, z_h61, z_h62, z_h63, z_h64, z_h65, z_h66, z_h67, z_h68, z_h69, z_h70, z_h71, z_h72, z_h73, z_h74, z_h75, z_h76, z_h77, z_h78, z_h79, z_h80, z_h81, z_h82, z_h83, z_h84, z_h85]
def z_hs_2 : List (List (Nat × Nat × Nat × Nat × Nat × Nat × Nat)) := [z_h86, z_h87, z_h88, z_h89, z_h90, z_h91, z_h92, z_h93, z_h94, z_h95, z_h96, z_h97, z_h98, z_h99, z_h100, z_h101, z_h102, z_h103, z_h104, z_h105, z_h106, z_h107, z_h108, z_h109, z_h110, z_h111, z_h112, z_h113, z_h114, z_h115, z_h116, z_h117, z_h118, z_h119, z_h120, z_h121, z_h122, z_h123, z_h124, z_h125, z_h126, z_h127, z_h128]
def z_hs_3 : List (List (Nat × Nat × Nat × Nat × Nat × Nat × Nat)) := [z_h129, z_h130, z_h131, z_h132, z_h133, z_h134, z_h135, z_h136, z_h137, z_h138, z_h139, z_h140, z_h141, z_h142, z_h143, z_h144, z_h145, z_h146, z_h147, z_h148, z_h149, z_h150, z_h151, z_h152, z_h153, z_h154, z_h155, z_h156, z_h157, z_h158, z_h159, z_h160, z_h161, z_h162, z_h163, z_h164, z_h165, z_h166, z_h167, z_h168, z_h169, z_h170, z_h171]
def z_hs_4 : List (List (Nat × Nat × Nat × Nat × Nat × Nat × Nat)) := [z_h172, z_h173, z_h174, z_h175, z_h176, z_h177, z_h178, z_h179, z_h180, z_h181, z_h182, z_h183, z_h184, z_h185, z_h186, z_h187, z_h188, z_h189, z_h190, z_h191, z_h192, z_h193, z_h194, z_h195, z_h196, z_h197, z_h198, z_h199, z_h200, z_h201, z_h202, z_h203, z_h204, z_h205, z_h206, z_h207, z_h208, z_h209, z_h210, z_h211, z_h212, z_h213, z_h214]
def z_hs_5 : List (List (Nat × Nat × Nat × Nat × Nat × Nat × Nat)) := [z_h215, z_h216, z_h217, z_h218, z_h219, z_h220, z_h221, z_h222, z_h223, z_h224, z_h225, z_h226, z_h227, z_h228, z_h229, z_h230, z_h231, z_h232, z_h233, z_h234, z_h235, z_h236, z_h237, z_h238, z_h239, z_h240, z_h241, z_h242, z_h243, z_h244, z_h245, z_h246, z_h247, z_h248, z_h249, z_h250, z_h251, z_h252, z_h253, z_h254, z_h255, z_h256, z_h257]
def z_hs_6 : List (List (Nat × Nat × Nat × Nat × Nat × Nat × Nat)) := [z_h258, z_h259, z_h260, z_h261, z_h262, z_h263, z_h264, z_h265, z_h266, z_h267, z_h268, z_h269, z_h270, z_h271, z_h272, z_h273, z_h274, z_h275, z_h276, z_h277, z_h278, z_h279, z_h280, z_h281, z_h282, z_h283, z_h284, z_h285, z_h286, z_h287, z_h288, z_h289, z_h290, z_h291, z_h292, z_h293, z_h294, z_h295, z_h296, z_h297, z_h298, z_h299, z_h300]
def z_hs_7 : List (List (Nat × Nat × Nat × Nat × Nat × Nat × Nat)) := [z_h301, z_h302, z_h303, z_h304, z_h305, z_h306, z_h307, z_h308, z_h309, z_h310, z_h311, z_h312, z_h313, z_h314, z_h315, z_h316, z_h317, z_h318, z_h319, z_h320, z_h321, z_h322, z_h323, z_h324, z_h325, z_h326, z_h327, z_h328, z_h329, z_h330, z_h331, z_h332, z_h333, z_h334, z_h335, z_h336, z_h337, z_h338, z_h339, z_h340, z_h341, z_h342, z_h343]
def z_hs : List (List (Nat × Nat × Nat × Nat × Nat × Nat × Nat)) := z_hs_0 ++ (z_hs_1 ++ (z_hs_2 ++ (z_hs_3 ++ (z_hs_4 ++ (z_hs_5 ++ (z_hs_6 ++ (z_hs_7)))))))
end
section
/-! what a frame stands on, what the room and the start give -/
def z_T : List Cond := lw_tbl.filter goodWord
def z_w (w : Cond) (i : Nat) : Bool := decide (lw_tbl[i]? = some w) && goodWord w
theorem z_w_in {w : Cond} {i : Nat} (h : z_w w i = true) : w ∈ z_T := by
  unfold z_w at h
  rw [Bool.and_eq_true] at h
  exact List.mem_filter.mpr ⟨List.mem_of_getElem? (of_decide_eq_true h.1), h.2⟩
def z_Fr (p : Program) (s : State) (m : MethodId) (args : Array Value) (meth : Method) (c : Code) (M : zMi) : Prop :=
  p.tables.exec = Jvm.exec ∧ c.code = M.2.2.1 ∧ c.maxLocals = M.2.2.2.1 ∧ meth.sig.returnType = M.2.2.2.2.1 ∧ s.vm.findClass M.1 = some m.cls ∧ (∀ w ∈ z_T, w.before args s = true) ∧ meth.locks = false ∧ c.exceptionTable.toList = tableOf M.2.2.2.2.2 ∧ meth.name = M.2.1.name
def z_tys (tc : Nat → ClassId) : List (ClassId × FieldType) := [(tc 0, .int), (tc 1, .byte), (tc 2, .long), (tc 3, .object RX2)]
def z_nest : List Cond := [.methodLinkNest RX11 9 yX8_init RX11, .methodLinkNest RX11 18 yX4_init RX11, .methodLinkNest RX2 17 yX1_init RX11, .methodLinkNest RX2 23 yX9_init RX11, .methodLinkNest RX2 29 yX5_init RX11]
def z_xw : List Cond := [.declares (Bundle.initS "java/lang/RuntimeException"), .declares (Bundle.initS "java/lang/Exception"), .declares (Bundle.initS "java/lang/Throwable"), .castable "java/lang/IllegalArgumentException" "java/lang/IllegalArgumentException", .castable "java/lang/UnsupportedOperationException" "java/lang/UnsupportedOperationException", .castable "java/lang/IndexOutOfBoundsException" "java/lang/IndexOutOfBoundsException", .castable "java/util/NoSuchElementException" "java/util/NoSuchElementException", .castable "java/lang/IllegalStateException" "java/lang/IllegalStateException"]
/-- what stays as it is below Z: the classes, the texts, the script -/
def z_K (l : Launch) (Z : Nat) (D : va_G) (tc : Nat → ClassId) (adK adV : Nat → Nat) (sb : Nat) (sx : zX) (U : State) : Prop :=
  Z ≤ U.heap.size ∧ va_K D vwCl (z_tys tc) U ∧
  (∀ (k : Nat) (q : String × Nat × String × List Int32), z_strs[k]? = some q → vk_R q.1 q.2.1 q.2.2.1 (adK k) U ∧ vk_S 1 [q.2.2.2.length] [q.2.2.2] (fun _ => adK k) (fun _ => adV k) (fun q => Z ≤ q) U U.heap) ∧
  vx_Zq Bundle.tN "UNASSIGNED_STACK" Bundle.steD (fun q => Z ≤ q) U U.heap ∧ vx_Zq Bundle.tN "SUPPRESSED_SENTINEL" Bundle.listD (fun q => Z ≤ q) U U.heap ∧
  (∀ w ∈ z_nest, va_Nw w U) ∧ va_AO RX2 U ∧ va_X sb sx.1 sx.2 U U.heap ∧ sb < Z ∧ l.stackTraces = false ∧
  va_Z "java/lang/String" "COMPACT_STRINGS" "Z" (.int 1) (fun q => Z ≤ q) U U.heap ∧ va_Zq "jdk/internal/util/Preconditions" "SIOOBE_FORMATTER" "Ljava/util/function/BiFunction;" (fun q => Z ≤ q) U U.heap ∧
  va_Nw (.castable "[I" "java/lang/Cloneable") U ∧ (∀ a ∈ z_excs, ∀ b ∈ z_excs, a ≠ b → va_Nc a b U) ∧ ∀ w ∈ z_xw, va_Nw w U
def z_A0 (adK : Nat → Nat) (sb : Nat) (ad0 : Nat → Nat) : Prop := (∀ k, k < z_strs.length → ad0 (zB + k) = adK k) ∧ ad0 zS = sb
def z_Rm (R : Room) (d C S : Nat) : Prop := d ≤ R.frames ∧ 60 * d ≤ R.locals ∧ C ≤ R.cells ∧ S ≤ R.slots
/-- from here the machine comes to Q, whatever the machine's heap that holds h -/
def z_W (p : Program) (l : Launch) (e : Env) (R : Room) (s : State) (m : MethodId) (args : Array Value) (below : List Frame) (meth : Method) (c : Code) (Z : Nat) (D : va_G) (tc : Nat → ClassId) (M : zMi) (nx : Nat → Nat) (ad0 : Nat → Nat) (n0 C S : Nat) (Q : State → Prop) (k : Nat) (lo : zL) (st : List Value) (h : zH) (kc ks : Nat) : Prop :=
  ∀ (ad : Nat → Nat) (H : Heap) (locs : List Loc) (ls : Array Slot) (cells slots : Nat), z_R Z D tc ad h H → z_ag n0 ad0 ad → n0 ≤ h.length → va_S (fun q => Z ≤ q) s.heap H locs → lv_has ls M.2.2.2.1 (z_tl ad lo) → (∀ q ∈ lo, z_okV h.length q.2) → (∀ v ∈ st, z_okV h.length v) → cells + kc = C → slots + ks = S →
    W p l e R s m args below meth c H locs cells slots Q (F0 m (nx k) ls (st.map (z_tr ad)))
abbrev zNop : Type := zX → Nat → Nat → Nat → Int → Nat → zL → List Value → zH → Option zN
abbrev zCk : Type := zMi → Nat → Nat → Int → Nat → Instr → Nat → List Nat → (Nat → Nat) → Nat → Bool
/-- a step of the abstract machine is the machine's -/
def z_Sn (op : zNop) (ck : zCk) : Prop := ∀ (p : Program) (l : Launch) (e : Env) (R : Room) (s : State) (m : MethodId) (args : Array Value) (below : List Frame) (meth : Method) (c : Code) (Z : Nat) (D : va_G) (tc : Nat → ClassId) (adK adV : Nat → Nat) (sb : Nat) (sx : zX) (M : zMi) (nx : Nat → Nat) (ad0 : Nat → Nat) (n0 C S d : Nat) (Q : State → Prop) (a b : Nat) (ci : Int) (k : Nat) (ins : Instr) (len : Nat) (pl : List Nat),
  z_Fr p s m args meth c M → z_K l Z D tc adK adV sb sx s → z_A0 adK sb ad0 → z_Rm R d C S → decode M.2.2.1 (nx k) = .ok (ins, len) → ck M a b ci (nx k) ins len pl nx k = true →
  ∀ (lo : zL) (st : List Value) (h : zH) (k' : Nat) (lo' : zL) (st' : List Value) (h' : zH) (x y : Nat), op sx d a b ci k lo st h = some (k', lo', st', h', x, y) → ∀ kc ks, z_W p l e R s m args below meth c Z D tc M nx ad0 n0 C S Q k' lo' st' h' kc ks → z_W p l e R s m args below meth c Z D tc M nx ad0 n0 C S Q k lo st h (kc + x) (ks + y)
def zn (k : Nat) (l : zL) (st : List Value) (h : zH) : Option zN := some (k, l, st, h, 0, 0)
theorem zn_inj {k k' : Nat} {l l' : zL} {st st' : List Value} {h h' : zH} {x y : Nat} (e : zn k l st h = some (k', l', st', h', x, y)) : k' = k ∧ l' = l ∧ st' = st ∧ h' = h ∧ x = 0 ∧ y = 0 := by
  unfold zn at e
  simp only [Option.some.injEq, Prod.mk.injEq] at e
  obtain ⟨h1, h2, h3, h4, h5, h6⟩ := e
  exact ⟨h1.symm, h2.symm, h3.symm, h4.symm, h5.symm, h6.symm⟩
theorem z_okC {n : Nat} {v : Value} {st : List Value} (hv : z_okV n v) (h : ∀ w ∈ st, z_okV n w) : ∀ w ∈ v :: st, z_okV n w := fun w hw => (List.mem_cons.mp hw).elim (fun e => by rw [e]; exact hv) (h w)
theorem z_ok1 {n : Nat} {v : Value} {st : List Value} (h : ∀ w ∈ v :: st, z_okV n w) : z_okV n v := h v List.mem_cons_self
theorem z_okT {n : Nat} {v : Value} {st : List Value} (h : ∀ w ∈ v :: st, z_okV n w) : ∀ w ∈ st, z_okV n w := fun w hw => h w (List.mem_cons_of_mem _ hw)
/-! constants and locals -/
def zo_const : zNop := fun _ _ _ _ c k l st h => zn (k + 1) l (.int (Int32.ofInt c) :: st) h
def zk_const : zCk := fun M _ _ c pc ins len pl nx k => match ins with
  | .iconst n => decide (n = c) && decide (len = 1) && decide (nx (k + 1) = pc + 1)
  | .bipush n => decide ((Int8.ofInt n).toInt32 = Int32.ofInt c) && decide (len = 2) && decide (nx (k + 1) = pc + 2)
  | .sipush n => decide ((Int16.ofInt n).toInt32 = Int32.ofInt c) && decide (len = 3) && decide (nx (k + 1) = pc + 3)
  | .ldc i => z_w (.constant M.1 i (Int32.ofInt c)) (pl.getD 0 0) && decide (len = 2) && decide (nx (k + 1) = pc + 2)
  | .ldc_w i => z_w (.constant M.1 i (Int32.ofInt c)) (pl.getD 0 0) && decide (len = 3) && decide (nx (k + 1) = pc + 3)
  | _ => false
theorem zs_const : z_Sn zo_const zk_const := by
  intro p l e R s m args below meth c Z D tc adK adV sb sx M nx ad0 n0 C S d Q a b ci k ins len pl hF hK hA hR hd hck lo st h k' lo' st' h' x y hop kc ks hW
  obtain ⟨rfl, rfl, rfl, rfl, rfl, rfl⟩ := zn_inj hop
  obtain ⟨hx, hb, hml, hr, hown, hts, -⟩ := hF
  intro ad H locs ls cells slots q1 q2 q3 q4 q5 q6 q7 q8 q9
  have kk := hW ad H locs ls cells slots q1 q2 q3 q4 q5 q6 (z_okC (z_okV_int _ _) q7) q8 q9
  unfold zk_const at hck
  split at hck
  all_goals (try simp only [Bool.and_eq_true, decide_eq_true_eq] at hck)
  · obtain ⟨⟨rfl, rfl⟩, hn⟩ := hck
    rw [hn] at kk
    exact lv_iconst hx hb hd rfl kk
  · obtain ⟨⟨h1, rfl⟩, hn⟩ := hck
    rw [hn] at kk
    exact lv_bipush hx hb hd h1 kk
  · obtain ⟨⟨h1, rfl⟩, hn⟩ := hck
    rw [hn] at kk
    exact lv_sipush hx hb hd h1 kk
  · obtain ⟨⟨h1, rfl⟩, hn⟩ := hck
    rw [hn] at kk
    exact lv_ldc hx hb hown (hts _ (z_w_in h1)) hd kk
  · obtain ⟨⟨h1, rfl⟩, hn⟩ := hck
    rw [hn] at kk
    exact lv_ldcw hx hb hown (hts _ (z_w_in h1)) hd kk
  · cases hck
def zo_iload : zNop := fun _ _ a _ _ k l st h => match z_get l a with
  | some (.int x) => zn (k + 1) l (.int x :: st) h
  | _ => none
def zk_iload : zCk := fun _ a _ _ pc ins len _ nx k => match ins with
  | .iload i => decide (i = a) && decide (len = 2) && decide (nx (k + 1) = pc + 2)
  | .iload_n i => decide ((i : Nat) = a) && decide (len = 1) && decide (nx (k + 1) = pc + 1)
  | _ => false
theorem zs_iload : z_Sn zo_iload zk_iload := by
  intro p l e R s m args below meth c Z D tc adK adV sb sx M nx ad0 n0 C S d Q a b ci k ins len pl hF hK hA hR hd hck lo st h k' lo' st' h' x y hop kc ks hW
  unfold zo_iload at hop
  split at hop
  case h_2 => cases hop
  next v hg =>
  obtain ⟨rfl, rfl, rfl, rfl, rfl, rfl⟩ := zn_inj hop
  obtain ⟨hx, hb, hml, hr, hown, hts, -⟩ := hF
  intro ad H locs ls cells slots q1 q2 q3 q4 q5 q6 q7 q8 q9
  have kk := hW ad H locs ls cells slots q1 q2 q3 q4 q5 q6 (z_okC (z_okV_int _ _) q7) q8 q9
  have hl := z_tl_at q5 hg
  unfold zk_iload at hck
  split at hck
  all_goals (try simp only [Bool.and_eq_true, decide_eq_true_eq] at hck)
  · obtain ⟨⟨rfl, rfl⟩, hn⟩ := hck
    rw [hn] at kk
    exact lv_iload hx hb hd hl kk
  · obtain ⟨⟨h1, rfl⟩, hn⟩ := hck
    rw [hn] at kk
    exact lv_iload_n hx hb hd h1 hl kk
  · cases hck
def zo_aload : zNop := fun _ _ a _ _ k l st h => match z_get l a with
  | some (.ref x) => zn (k + 1) l (.ref x :: st) h
  | _ => none
def zk_aload : zCk := fun _ a _ _ pc ins len _ nx k => match ins with
  | .aload i => decide (i = a) && decide (len = 2) && decide (nx (k + 1) = pc + 2)
  | .aload_n i => decide ((i : Nat) = a) && decide (len = 1) && decide (nx (k + 1) = pc + 1)
  | _ => false
theorem zs_aload : z_Sn zo_aload zk_aload := by
  intro p l e R s m args below meth c Z D tc adK adV sb sx M nx ad0 n0 C S d Q a b ci k ins len pl hF hK hA hR hd hck lo st h k' lo' st' h' x y hop kc ks hW
  unfold zo_aload at hop
  split at hop
  case h_2 => cases hop
  next v hg =>
  obtain ⟨rfl, rfl, rfl, rfl, rfl, rfl⟩ := zn_inj hop
  obtain ⟨hx, hb, hml, hr, hown, hts, -⟩ := hF
  intro ad H locs ls cells slots q1 q2 q3 q4 q5 q6 q7 q8 q9
  have kk := hW ad H locs ls cells slots q1 q2 q3 q4 q5 q6 (z_okC (q6 _ (z_get_mem hg)) q7) q8 q9
  have hl := z_tl_at q5 hg
  unfold zk_aload at hck
  split at hck
  all_goals (try simp only [Bool.and_eq_true, decide_eq_true_eq] at hck)
  · obtain ⟨⟨rfl, rfl⟩, hn⟩ := hck
    rw [hn] at kk
    exact lv_aload hx hb hd hl kk
  · obtain ⟨⟨h1, rfl⟩, hn⟩ := hck
    rw [hn] at kk
    exact lv_aload_n hx hb hd h1 hl kk
  · cases hck
def zo_lload : zNop := fun _ _ a _ _ k l st h => match z_get l a with
  | some (.long x) => zn (k + 1) l (.long x :: st) h
  | _ => none
def zk_lload : zCk := fun _ a _ _ pc ins len _ nx k => match ins with
  | .lload i => decide (i = a) && decide (len = 2) && decide (nx (k + 1) = pc + 2)
  | .lload_n i => decide ((i : Nat) = a) && decide (len = 1) && decide (nx (k + 1) = pc + 1)
  | _ => false
theorem zs_lload : z_Sn zo_lload zk_lload := by
  intro p l e R s m args below meth c Z D tc adK adV sb sx M nx ad0 n0 C S d Q a b ci k ins len pl hF hK hA hR hd hck lo st h k' lo' st' h' x y hop kc ks hW
  unfold zo_lload at hop
  split at hop
  case h_2 => cases hop
  next v hg =>
  obtain ⟨rfl, rfl, rfl, rfl, rfl, rfl⟩ := zn_inj hop
  obtain ⟨hx, hb, hml, hr, hown, hts, -⟩ := hF
  intro ad H locs ls cells slots q1 q2 q3 q4 q5 q6 q7 q8 q9
  have kk := hW ad H locs ls cells slots q1 q2 q3 q4 q5 q6 (z_okC (z_okV_long _ _) q7) q8 q9
  have hl := z_tl_at q5 hg
  unfold zk_lload at hck
  split at hck
  all_goals (try simp only [Bool.and_eq_true, decide_eq_true_eq] at hck)
  · obtain ⟨⟨rfl, rfl⟩, hn⟩ := hck
    rw [hn] at kk
    exact lv_lload hx hb hd hl kk
  · obtain ⟨⟨h1, rfl⟩, hn⟩ := hck
    rw [hn] at kk
    exact lv_lload_n hx hb hd h1 hl kk
  · cases hck
def zo_istore : zNop := fun _ _ a _ _ k l st h => match st with
  | .int x :: st => zn (k + 1) (z_set1 l a (.int x)) st h
  | _ => none
def zk_istore : zCk := fun M a _ _ pc ins len _ nx k => decide (a < M.2.2.2.1) && match ins with
  | .istore i => decide (i = a) && decide (len = 2) && decide (nx (k + 1) = pc + 2)
  | .istore_n i => decide ((i : Nat) = a) && decide (len = 1) && decide (nx (k + 1) = pc + 1)
  | _ => false
theorem zs_istore : z_Sn zo_istore zk_istore := by
  intro p l e R s m args below meth c Z D tc adK adV sb sx M nx ad0 n0 C S d Q a b ci k ins len pl hF hK hA hR hd hck lo st h k' lo' st' h' x y hop kc ks hW
  unfold zo_istore at hop
  split at hop
  case h_2 => cases hop
  next v st2 =>
  obtain ⟨rfl, rfl, rfl, rfl, rfl, rfl⟩ := zn_inj hop
  obtain ⟨hx, hb, hml, hr, hown, hts, -⟩ := hF
  intro ad H locs ls cells slots q1 q2 q3 q4 q5 q6 q7 q8 q9
  have kk := fun ls hl => hW ad H locs ls cells slots q1 q2 q3 q4 hl (z_set1_ok q6 (z_okV_int _ _)) (z_okT q7) q8 q9
  unfold zk_istore at hck
  rw [Bool.and_eq_true] at hck
  obtain ⟨ha, hck⟩ := hck
  have ha := of_decide_eq_true ha
  split at hck
  all_goals (try simp only [Bool.and_eq_true, decide_eq_true_eq] at hck)
  · obtain ⟨⟨rfl, rfl⟩, hn⟩ := hck
    rw [hn] at kk
    exact lv_istore hx hb hd q5 ha (z_tl_set1 ad _ _ (.int v)) kk
  · obtain ⟨⟨h1, rfl⟩, hn⟩ := hck
    rw [hn] at kk
    exact lv_istore_n hx hb hd h1 q5 ha (z_tl_set1 ad _ _ (.int v)) kk
  · cases hck
def zo_astore : zNop := fun _ _ a _ _ k l st h => match st with
  | .ref x :: st => zn (k + 1) (z_set1 l a (.ref x)) st h
  | _ => none
def zk_astore : zCk := fun M a _ _ pc ins len _ nx k => decide (a < M.2.2.2.1) && match ins with
  | .astore i => decide (i = a) && decide (len = 2) && decide (nx (k + 1) = pc + 2)
  | .astore_n i => decide ((i : Nat) = a) && decide (len = 1) && decide (nx (k + 1) = pc + 1)
  | _ => false
theorem zs_astore : z_Sn zo_astore zk_astore := by
  intro p l e R s m args below meth c Z D tc adK adV sb sx M nx ad0 n0 C S d Q a b ci k ins len pl hF hK hA hR hd hck lo st h k' lo' st' h' x y hop kc ks hW
  unfold zo_astore at hop
  split at hop
  case h_2 => cases hop
  next v st2 =>
  obtain ⟨rfl, rfl, rfl, rfl, rfl, rfl⟩ := zn_inj hop
  obtain ⟨hx, hb, hml, hr, hown, hts, -⟩ := hF
  intro ad H locs ls cells slots q1 q2 q3 q4 q5 q6 q7 q8 q9
  have kk := fun ls hl => hW ad H locs ls cells slots q1 q2 q3 q4 hl (z_set1_ok q6 (z_ok1 q7)) (z_okT q7) q8 q9
  unfold zk_astore at hck
  rw [Bool.and_eq_true] at hck
  obtain ⟨ha, hck⟩ := hck
  have ha := of_decide_eq_true ha
  split at hck
  all_goals (try simp only [Bool.and_eq_true, decide_eq_true_eq] at hck)
  · obtain ⟨⟨rfl, rfl⟩, hn⟩ := hck
    rw [hn] at kk
    exact lv_astore hx hb hd q5 ha (z_tl_set1 ad _ _ (.ref v)) kk
  · obtain ⟨⟨h1, rfl⟩, hn⟩ := hck
    rw [hn] at kk
    exact lv_astore_n hx hb hd h1 q5 ha (z_tl_set1 ad _ _ (.ref v)) kk
  · cases hck
def zo_lstore : zNop := fun _ _ a _ _ k l st h => match st with
  | .long x :: st => zn (k + 1) (z_set2 l a (.long x)) st h
  | _ => none
def zk_lstore : zCk := fun M a _ _ pc ins len _ nx k => decide (a + 1 < M.2.2.2.1) && match ins with
  | .lstore i => decide (i = a) && decide (len = 2) && decide (nx (k + 1) = pc + 2)
  | .lstore_n i => decide ((i : Nat) = a) && decide (len = 1) && decide (nx (k + 1) = pc + 1)
  | _ => false
theorem zs_lstore : z_Sn zo_lstore zk_lstore := by
  intro p l e R s m args below meth c Z D tc adK adV sb sx M nx ad0 n0 C S d Q a b ci k ins len pl hF hK hA hR hd hck lo st h k' lo' st' h' x y hop kc ks hW
  unfold zo_lstore at hop
  split at hop
  case h_2 => cases hop
  next v st2 =>
  obtain ⟨rfl, rfl, rfl, rfl, rfl, rfl⟩ := zn_inj hop
  obtain ⟨hx, hb, hml, hr, hown, hts, -⟩ := hF
  intro ad H locs ls cells slots q1 q2 q3 q4 q5 q6 q7 q8 q9
  have kk := fun ls hl => hW ad H locs ls cells slots q1 q2 q3 q4 hl (z_set2_ok q6 (z_okV_long _ _)) (z_okT q7) q8 q9
  unfold zk_lstore at hck
  rw [Bool.and_eq_true] at hck
  obtain ⟨ha, hck⟩ := hck
  have ha := of_decide_eq_true ha
  split at hck
  all_goals (try simp only [Bool.and_eq_true, decide_eq_true_eq] at hck)
  · obtain ⟨⟨rfl, rfl⟩, hn⟩ := hck
    rw [hn] at kk
    exact lv_lstore hx hb hd q5 ha (z_tl_set2 ad _ _ (.long v)) kk
  · obtain ⟨⟨h1, rfl⟩, hn⟩ := hck
    rw [hn] at kk
    exact lv_lstore_n hx hb hd h1 q5 ha (z_tl_set2 ad _ _ (.long v)) kk
  · cases hck
def zo_iinc : zNop := fun _ _ a _ c k l st h => match z_get l a with
  | some (.int x) => zn (k + 1) (z_set1 l a (.int (x + Int32.ofInt c))) st h
  | _ => none
def zk_iinc : zCk := fun M a _ c pc ins len _ nx k => decide (a < M.2.2.2.1) && match ins with
  | .iinc i n => decide (i = a) && decide (n = c) && decide (len = 3) && decide (nx (k + 1) = pc + 3)
  | _ => false
theorem zs_iinc : z_Sn zo_iinc zk_iinc := by
  intro p l e R s m args below meth c Z D tc adK adV sb sx M nx ad0 n0 C S d Q a b ci k ins len pl hF hK hA hR hd hck lo st h k' lo' st' h' x y hop kc ks hW
  unfold zo_iinc at hop
  split at hop
  case h_2 => cases hop
  next v hg =>
  obtain ⟨rfl, rfl, rfl, rfl, rfl, rfl⟩ := zn_inj hop
  obtain ⟨hx, hb, hml, hr, hown, hts, -⟩ := hF
  intro ad H locs ls cells slots q1 q2 q3 q4 q5 q6 q7 q8 q9
  have kk := fun ls hl => hW ad H locs ls cells slots q1 q2 q3 q4 hl (z_set1_ok q6 (z_okV_int _ _)) q7 q8 q9
  have hm : (a, Value.int v) ∈ z_tl ad lo := List.mem_map.mpr ⟨(a, .int v), z_get_mem hg, rfl⟩
  obtain ⟨kk0, hk0⟩ := List.getElem?_of_mem hm
  unfold zk_iinc at hck
  rw [Bool.and_eq_true] at hck
  obtain ⟨ha, hck⟩ := hck
  have ha := of_decide_eq_true ha
  split at hck
  all_goals (try simp only [Bool.and_eq_true, decide_eq_true_eq] at hck)
  · obtain ⟨⟨⟨rfl, rfl⟩, rfl⟩, hn⟩ := hck
    rw [hn] at kk
    exact lv_iinc hx hb hd q5 hk0 rfl ha (z_tl_set1 ad _ _ (.int _)) kk
  · cases hck
end
section
def zo_iadd : zNop := fun _ _ _ _ _ k l st h => match st with
  | .int y :: .int x :: st => zn (k + 1) l (.int (x + y) :: st) h
  | _ => none
def zk_iadd : zCk := fun _ _ _ _ pc ins len _ nx k => match ins with
  | .iadd => decide (len = 1) && decide (nx (k + 1) = pc + 1)
  | _ => false
theorem zs_iadd : z_Sn zo_iadd zk_iadd := by
  intro p l e R s m args below meth c Z D tc adK adV sb sx M nx ad0 n0 C S d Q a b ci k ins len pl hF hK hA hR hd hck lo st h k' lo' st' h' x y hop kc ks hW
  unfold zo_iadd at hop
  split at hop
  case h_2 => cases hop
  next vy vx st2 =>
  obtain ⟨rfl, rfl, rfl, rfl, rfl, rfl⟩ := zn_inj hop
  obtain ⟨hx, hb, hml, hr, hown, hts, -⟩ := hF
  intro ad H locs ls cells slots q1 q2 q3 q4 q5 q6 q7 q8 q9
  have kk := hW ad H locs ls cells slots q1 q2 q3 q4 q5 q6 (z_okC (z_okV_int _ _) (z_okT (z_okT q7))) q8 q9
  unfold zk_iadd at hck
  split at hck
  all_goals (try simp only [Bool.and_eq_true, decide_eq_true_eq] at hck)
  · obtain ⟨rfl, hn⟩ := hck
    rw [hn] at kk
    exact lv_iadd hx hb hd kk
  · cases hck
def zo_isub : zNop := fun _ _ _ _ _ k l st h => match st with
  | .int y :: .int x :: st => zn (k + 1) l (.int (x - y) :: st) h
  | _ => none
def zk_isub : zCk := fun _ _ _ _ pc ins len _ nx k => match ins with
  | .isub => decide (len = 1) && decide (nx (k + 1) = pc + 1)
  | _ => false
theorem zs_isub : z_Sn zo_isub zk_isub := by
  intro p l e R s m args below meth c Z D tc adK adV sb sx M nx ad0 n0 C S d Q a b ci k ins len pl hF hK hA hR hd hck lo st h k' lo' st' h' x y hop kc ks hW
  unfold zo_isub at hop
  split at hop
  case h_2 => cases hop
  next vy vx st2 =>
  obtain ⟨rfl, rfl, rfl, rfl, rfl, rfl⟩ := zn_inj hop
  obtain ⟨hx, hb, hml, hr, hown, hts, -⟩ := hF
  intro ad H locs ls cells slots q1 q2 q3 q4 q5 q6 q7 q8 q9
  have kk := hW ad H locs ls cells slots q1 q2 q3 q4 q5 q6 (z_okC (z_okV_int _ _) (z_okT (z_okT q7))) q8 q9
  unfold zk_isub at hck
  split at hck
  all_goals (try simp only [Bool.and_eq_true, decide_eq_true_eq] at hck)
  · obtain ⟨rfl, hn⟩ := hck
    rw [hn] at kk
    exact lv_isub hx hb hd kk
  · cases hck
def zo_imul : zNop := fun _ _ _ _ _ k l st h => match st with
  | .int y :: .int x :: st => zn (k + 1) l (.int (x * y) :: st) h
  | _ => none
def zk_imul : zCk := fun _ _ _ _ pc ins len _ nx k => match ins with
  | .imul => decide (len = 1) && decide (nx (k + 1) = pc + 1)
  | _ => false
theorem zs_imul : z_Sn zo_imul zk_imul := by
  intro p l e R s m args below meth c Z D tc adK adV sb sx M nx ad0 n0 C S d Q a b ci k ins len pl hF hK hA hR hd hck lo st h k' lo' st' h' x y hop kc ks hW
  unfold zo_imul at hop
  split at hop
  case h_2 => cases hop
  next vy vx st2 =>
  obtain ⟨rfl, rfl, rfl, rfl, rfl, rfl⟩ := zn_inj hop
  obtain ⟨hx, hb, hml, hr, hown, hts, -⟩ := hF
  intro ad H locs ls cells slots q1 q2 q3 q4 q5 q6 q7 q8 q9
  have kk := hW ad H locs ls cells slots q1 q2 q3 q4 q5 q6 (z_okC (z_okV_int _ _) (z_okT (z_okT q7))) q8 q9
  unfold zk_imul at hck
  split at hck
  all_goals (try simp only [Bool.and_eq_true, decide_eq_true_eq] at hck)
  · obtain ⟨rfl, hn⟩ := hck
    rw [hn] at kk
    exact lv_imul hx hb hd kk
  · cases hck
def zo_idiv : zNop := fun _ _ _ _ _ k l st h => match st with
  | .int y :: .int x :: st => if y = 0 then none else zn (k + 1) l (.int (x / y) :: st) h
  | _ => none
def zk_idiv : zCk := fun _ _ _ _ pc ins len _ nx k => match ins with
  | .idiv => decide (len = 1) && decide (nx (k + 1) = pc + 1)
  | _ => false
theorem zs_idiv : z_Sn zo_idiv zk_idiv := by
  intro p l e R s m args below meth c Z D tc adK adV sb sx M nx ad0 n0 C S d Q a b ci k ins len pl hF hK hA hR hd hck lo st h k' lo' st' h' x y hop kc ks hW
  unfold zo_idiv at hop
  split at hop
  case h_2 => cases hop
  next vy vx st2 =>
  by_cases hne : vy = 0
  · rw [if_pos hne] at hop; cases hop
  rw [if_neg hne] at hop
  obtain ⟨rfl, rfl, rfl, rfl, rfl, rfl⟩ := zn_inj hop
  obtain ⟨hx, hb, hml, hr, hown, hts, -⟩ := hF
  intro ad H locs ls cells slots q1 q2 q3 q4 q5 q6 q7 q8 q9
  have kk := hW ad H locs ls cells slots q1 q2 q3 q4 q5 q6 (z_okC (z_okV_int _ _) (z_okT (z_okT q7))) q8 q9
  unfold zk_idiv at hck
  split at hck
  all_goals (try simp only [Bool.and_eq_true, decide_eq_true_eq] at hck)
  · obtain ⟨rfl, hn⟩ := hck
    rw [hn] at kk
    exact lv_idiv hx hb hd hne kk
  · cases hck
def zo_irem : zNop := fun _ _ _ _ _ k l st h => match st with
  | .int y :: .int x :: st => if y = 0 then none else zn (k + 1) l (.int (x - x / y * y) :: st) h
  | _ => none
def zk_irem : zCk := fun _ _ _ _ pc ins len _ nx k => match ins with
  | .irem => decide (len = 1) && decide (nx (k + 1) = pc + 1)
  | _ => false
theorem zs_irem : z_Sn zo_irem zk_irem := by
  intro p l e R s m args below meth c Z D tc adK adV sb sx M nx ad0 n0 C S d Q a b ci k ins len pl hF hK hA hR hd hck lo st h k' lo' st' h' x y hop kc ks hW
  unfold zo_irem at hop
  split at hop
  case h_2 => cases hop
  next vy vx st2 =>
  by_cases hne : vy = 0
  · rw [if_pos hne] at hop; cases hop
  rw [if_neg hne] at hop
  obtain ⟨rfl, rfl, rfl, rfl, rfl, rfl⟩ := zn_inj hop
  obtain ⟨hx, hb, hml, hr, hown, hts, -⟩ := hF
  intro ad H locs ls cells slots q1 q2 q3 q4 q5 q6 q7 q8 q9
  have kk := hW ad H locs ls cells slots q1 q2 q3 q4 q5 q6 (z_okC (z_okV_int _ _) (z_okT (z_okT q7))) q8 q9
  unfold zk_irem at hck
  split at hck
  all_goals (try simp only [Bool.and_eq_true, decide_eq_true_eq] at hck)
  · obtain ⟨rfl, hn⟩ := hck
    rw [hn] at kk
    exact lv_irem hx hb hd hne kk
  · cases hck
def zo_ishl : zNop := fun _ _ _ _ _ k l st h => match st with
  | .int y :: .int x :: st => zn (k + 1) l (.int (x <<< (y &&& 31)) :: st) h
  | _ => none
def zk_ishl : zCk := fun _ _ _ _ pc ins len _ nx k => match ins with
  | .ishl => decide (len = 1) && decide (nx (k + 1) = pc + 1)
  | _ => false
theorem zs_ishl : z_Sn zo_ishl zk_ishl := by
  intro p l e R s m args below meth c Z D tc adK adV sb sx M nx ad0 n0 C S d Q a b ci k ins len pl hF hK hA hR hd hck lo st h k' lo' st' h' x y hop kc ks hW
  unfold zo_ishl at hop
  split at hop
  case h_2 => cases hop
  next vy vx st2 =>
  obtain ⟨rfl, rfl, rfl, rfl, rfl, rfl⟩ := zn_inj hop
  obtain ⟨hx, hb, hml, hr, hown, hts, -⟩ := hF
  intro ad H locs ls cells slots q1 q2 q3 q4 q5 q6 q7 q8 q9
  have kk := hW ad H locs ls cells slots q1 q2 q3 q4 q5 q6 (z_okC (z_okV_int _ _) (z_okT (z_okT q7))) q8 q9
  unfold zk_ishl at hck
  split at hck
  all_goals (try simp only [Bool.and_eq_true, decide_eq_true_eq] at hck)
  · obtain ⟨rfl, hn⟩ := hck
    rw [hn] at kk
    exact lv_ishl hx hb hd kk
  · cases hck
def zo_ishr : zNop := fun _ _ _ _ _ k l st h => match st with
  | .int y :: .int x :: st => zn (k + 1) l (.int (x >>> (y &&& 31)) :: st) h
  | _ => none
def zk_ishr : zCk := fun _ _ _ _ pc ins len _ nx k => match ins with
  | .ishr => decide (len = 1) && decide (nx (k + 1) = pc + 1)
  | _ => false
theorem zs_ishr : z_Sn zo_ishr zk_ishr := by
  intro p l e R s m args below meth c Z D tc adK adV sb sx M nx ad0 n0 C S d Q a b ci k ins len pl hF hK hA hR hd hck lo st h k' lo' st' h' x y hop kc ks hW
  unfold zo_ishr at hop
  split at hop
  case h_2 => cases hop
  next vy vx st2 =>
  obtain ⟨rfl, rfl, rfl, rfl, rfl, rfl⟩ := zn_inj hop
  obtain ⟨hx, hb, hml, hr, hown, hts, -⟩ := hF
  intro ad H locs ls cells slots q1 q2 q3 q4 q5 q6 q7 q8 q9
  have kk := hW ad H locs ls cells slots q1 q2 q3 q4 q5 q6 (z_okC (z_okV_int _ _) (z_okT (z_okT q7))) q8 q9
  unfold zk_ishr at hck
  split at hck
  all_goals (try simp only [Bool.and_eq_true, decide_eq_true_eq] at hck)
  · obtain ⟨rfl, hn⟩ := hck
    rw [hn] at kk
    exact lv_ishr hx hb hd kk
  · cases hck
def zo_iushr : zNop := fun _ _ _ _ _ k l st h => match st with
  | .int y :: .int x :: st => zn (k + 1) l (.int ((x.toUInt32 >>> (y.toUInt32 &&& Int32.toUInt32 31)).toInt32) :: st) h
  | _ => none
def zk_iushr : zCk := fun _ _ _ _ pc ins len _ nx k => match ins with
  | .iushr => decide (len = 1) && decide (nx (k + 1) = pc + 1)
  | _ => false
theorem zs_iushr : z_Sn zo_iushr zk_iushr := by
  intro p l e R s m args below meth c Z D tc adK adV sb sx M nx ad0 n0 C S d Q a b ci k ins len pl hF hK hA hR hd hck lo st h k' lo' st' h' x y hop kc ks hW
  unfold zo_iushr at hop
  split at hop
  case h_2 => cases hop
  next vy vx st2 =>
  obtain ⟨rfl, rfl, rfl, rfl, rfl, rfl⟩ := zn_inj hop
  obtain ⟨hx, hb, hml, hr, hown, hts, -⟩ := hF
  intro ad H locs ls cells slots q1 q2 q3 q4 q5 q6 q7 q8 q9
  have kk := hW ad H locs ls cells slots q1 q2 q3 q4 q5 q6 (z_okC (z_okV_int _ _) (z_okT (z_okT q7))) q8 q9
  unfold zk_iushr at hck
  split at hck
  all_goals (try simp only [Bool.and_eq_true, decide_eq_true_eq] at hck)
  · obtain ⟨rfl, hn⟩ := hck
    rw [hn] at kk
    exact lv_iushr hx hb hd rfl kk
  · cases hck
def zo_iand : zNop := fun _ _ _ _ _ k l st h => match st with
  | .int y :: .int x :: st => zn (k + 1) l (.int (x &&& y) :: st) h
  | _ => none
def zk_iand : zCk := fun _ _ _ _ pc ins len _ nx k => match ins with
  | .iand => decide (len = 1) && decide (nx (k + 1) = pc + 1)
  | _ => false
theorem zs_iand : z_Sn zo_iand zk_iand := by
  intro p l e R s m args below meth c Z D tc adK adV sb sx M nx ad0 n0 C S d Q a b ci k ins len pl hF hK hA hR hd hck lo st h k' lo' st' h' x y hop kc ks hW
  unfold zo_iand at hop
  split at hop
  case h_2 => cases hop
  next vy vx st2 =>
  obtain ⟨rfl, rfl, rfl, rfl, rfl, rfl⟩ := zn_inj hop
  obtain ⟨hx, hb, hml, hr, hown, hts, -⟩ := hF
  intro ad H locs ls cells slots q1 q2 q3 q4 q5 q6 q7 q8 q9
  have kk := hW ad H locs ls cells slots q1 q2 q3 q4 q5 q6 (z_okC (z_okV_int _ _) (z_okT (z_okT q7))) q8 q9
  unfold zk_iand at hck
  split at hck
  all_goals (try simp only [Bool.and_eq_true, decide_eq_true_eq] at hck)
  · obtain ⟨rfl, hn⟩ := hck
    rw [hn] at kk
    exact lv_iand hx hb hd kk
  · cases hck
def zo_ior : zNop := fun _ _ _ _ _ k l st h => match st with
  | .int y :: .int x :: st => zn (k + 1) l (.int (x ||| y) :: st) h
  | _ => none
def zk_ior : zCk := fun _ _ _ _ pc ins len _ nx k => match ins with
  | .ior => decide (len = 1) && decide (nx (k + 1) = pc + 1)
  | _ => false
theorem zs_ior : z_Sn zo_ior zk_ior := by
  intro p l e R s m args below meth c Z D tc adK adV sb sx M nx ad0 n0 C S d Q a b ci k ins len pl hF hK hA hR hd hck lo st h k' lo' st' h' x y hop kc ks hW
  unfold zo_ior at hop
  split at hop
  case h_2 => cases hop
  next vy vx st2 =>
  obtain ⟨rfl, rfl, rfl, rfl, rfl, rfl⟩ := zn_inj hop
  obtain ⟨hx, hb, hml, hr, hown, hts, -⟩ := hF
  intro ad H locs ls cells slots q1 q2 q3 q4 q5 q6 q7 q8 q9
  have kk := hW ad H locs ls cells slots q1 q2 q3 q4 q5 q6 (z_okC (z_okV_int _ _) (z_okT (z_okT q7))) q8 q9
  unfold zk_ior at hck
  split at hck
  all_goals (try simp only [Bool.and_eq_true, decide_eq_true_eq] at hck)
  · obtain ⟨rfl, hn⟩ := hck
    rw [hn] at kk
    exact lv_ior hx hb hd kk
  · cases hck
def zo_ixor : zNop := fun _ _ _ _ _ k l st h => match st with
  | .int y :: .int x :: st => zn (k + 1) l (.int (x ^^^ y) :: st) h
  | _ => none
def zk_ixor : zCk := fun _ _ _ _ pc ins len _ nx k => match ins with
  | .ixor => decide (len = 1) && decide (nx (k + 1) = pc + 1)
  | _ => false
theorem zs_ixor : z_Sn zo_ixor zk_ixor := by
  intro p l e R s m args below meth c Z D tc adK adV sb sx M nx ad0 n0 C S d Q a b ci k ins len pl hF hK hA hR hd hck lo st h k' lo' st' h' x y hop kc ks hW
  unfold zo_ixor at hop
  split at hop
  case h_2 => cases hop
  next vy vx st2 =>
  obtain ⟨rfl, rfl, rfl, rfl, rfl, rfl⟩ := zn_inj hop
  obtain ⟨hx, hb, hml, hr, hown, hts, -⟩ := hF
  intro ad H locs ls cells slots q1 q2 q3 q4 q5 q6 q7 q8 q9
  have kk := hW ad H locs ls cells slots q1 q2 q3 q4 q5 q6 (z_okC (z_okV_int _ _) (z_okT (z_okT q7))) q8 q9
  unfold zk_ixor at hck
  split at hck
  all_goals (try simp only [Bool.and_eq_true, decide_eq_true_eq] at hck)
  · obtain ⟨rfl, hn⟩ := hck
    rw [hn] at kk
    exact lv_ixor hx hb hd kk
  · cases hck
def zo_ladd : zNop := fun _ _ _ _ _ k l st h => match st with
  | .long y :: .long x :: st => zn (k + 1) l (.long (x + y) :: st) h
  | _ => none
def zk_ladd : zCk := fun _ _ _ _ pc ins len _ nx k => match ins with
  | .ladd => decide (len = 1) && decide (nx (k + 1) = pc + 1)
  | _ => false
theorem zs_ladd : z_Sn zo_ladd zk_ladd := by
  intro p l e R s m args below meth c Z D tc adK adV sb sx M nx ad0 n0 C S d Q a b ci k ins len pl hF hK hA hR hd hck lo st h k' lo' st' h' x y hop kc ks hW
  unfold zo_ladd at hop
  split at hop
  case h_2 => cases hop
  next vy vx st2 =>
  obtain ⟨rfl, rfl, rfl, rfl, rfl, rfl⟩ := zn_inj hop
  obtain ⟨hx, hb, hml, hr, hown, hts, -⟩ := hF
  intro ad H locs ls cells slots q1 q2 q3 q4 q5 q6 q7 q8 q9
  have kk := hW ad H locs ls cells slots q1 q2 q3 q4 q5 q6 (z_okC (z_okV_long _ _) (z_okT (z_okT q7))) q8 q9
  unfold zk_ladd at hck
  split at hck
  all_goals (try simp only [Bool.and_eq_true, decide_eq_true_eq] at hck)
  · obtain ⟨rfl, hn⟩ := hck
    rw [hn] at kk
    exact lv_ladd hx hb hd kk
  · cases hck
def zo_lmul : zNop := fun _ _ _ _ _ k l st h => match st with
  | .long y :: .long x :: st => zn (k + 1) l (.long (x * y) :: st) h
  | _ => none
def zk_lmul : zCk := fun _ _ _ _ pc ins len _ nx k => match ins with
  | .lmul => decide (len = 1) && decide (nx (k + 1) = pc + 1)
  | _ => false
theorem zs_lmul : z_Sn zo_lmul zk_lmul := by
  intro p l e R s m args below meth c Z D tc adK adV sb sx M nx ad0 n0 C S d Q a b ci k ins len pl hF hK hA hR hd hck lo st h k' lo' st' h' x y hop kc ks hW
  unfold zo_lmul at hop
  split at hop
  case h_2 => cases hop
  next vy vx st2 =>
  obtain ⟨rfl, rfl, rfl, rfl, rfl, rfl⟩ := zn_inj hop
  obtain ⟨hx, hb, hml, hr, hown, hts, -⟩ := hF
  intro ad H locs ls cells slots q1 q2 q3 q4 q5 q6 q7 q8 q9
  have kk := hW ad H locs ls cells slots q1 q2 q3 q4 q5 q6 (z_okC (z_okV_long _ _) (z_okT (z_okT q7))) q8 q9
  unfold zk_lmul at hck
  split at hck
  all_goals (try simp only [Bool.and_eq_true, decide_eq_true_eq] at hck)
  · obtain ⟨rfl, hn⟩ := hck
    rw [hn] at kk
    exact lv_lmul hx hb hd kk
  · cases hck
def zo_ldiv : zNop := fun _ _ _ _ _ k l st h => match st with
  | .long y :: .long x :: st => if y = 0 then none else zn (k + 1) l (.long (x / y) :: st) h
  | _ => none
def zk_ldiv : zCk := fun _ _ _ _ pc ins len _ nx k => match ins with
  | .ldiv => decide (len = 1) && decide (nx (k + 1) = pc + 1)
  | _ => false
theorem zs_ldiv : z_Sn zo_ldiv zk_ldiv := by
  intro p l e R s m args below meth c Z D tc adK adV sb sx M nx ad0 n0 C S d Q a b ci k ins len pl hF hK hA hR hd hck lo st h k' lo' st' h' x y hop kc ks hW
  unfold zo_ldiv at hop
  split at hop
  case h_2 => cases hop
  next vy vx st2 =>
  by_cases hne : vy = 0
  · rw [if_pos hne] at hop; cases hop
  rw [if_neg hne] at hop
  obtain ⟨rfl, rfl, rfl, rfl, rfl, rfl⟩ := zn_inj hop
  obtain ⟨hx, hb, hml, hr, hown, hts, -⟩ := hF
  intro ad H locs ls cells slots q1 q2 q3 q4 q5 q6 q7 q8 q9
  have kk := hW ad H locs ls cells slots q1 q2 q3 q4 q5 q6 (z_okC (z_okV_long _ _) (z_okT (z_okT q7))) q8 q9
  unfold zk_ldiv at hck
  split at hck
  all_goals (try simp only [Bool.and_eq_true, decide_eq_true_eq] at hck)
  · obtain ⟨rfl, hn⟩ := hck
    rw [hn] at kk
    exact lv_ldiv hx hb hd hne kk
  · cases hck
def zo_lcmp : zNop := fun _ _ _ _ _ k l st h => match st with
  | .long y :: .long x :: st => zn (k + 1) l (.int (lg_cmp x y) :: st) h
  | _ => none
def zk_lcmp : zCk := fun _ _ _ _ pc ins len _ nx k => match ins with
  | .lcmp => decide (len = 1) && decide (nx (k + 1) = pc + 1)
  | _ => false
theorem zs_lcmp : z_Sn zo_lcmp zk_lcmp := by
  intro p l e R s m args below meth c Z D tc adK adV sb sx M nx ad0 n0 C S d Q a b ci k ins len pl hF hK hA hR hd hck lo st h k' lo' st' h' x y hop kc ks hW
  unfold zo_lcmp at hop
  split at hop
  case h_2 => cases hop
  next vy vx st2 =>
  obtain ⟨rfl, rfl, rfl, rfl, rfl, rfl⟩ := zn_inj hop
  obtain ⟨hx, hb, hml, hr, hown, hts, -⟩ := hF
  intro ad H locs ls cells slots q1 q2 q3 q4 q5 q6 q7 q8 q9
  have kk := hW ad H locs ls cells slots q1 q2 q3 q4 q5 q6 (z_okC (z_okV_int _ _) (z_okT (z_okT q7))) q8 q9
  unfold zk_lcmp at hck
  split at hck
  all_goals (try simp only [Bool.and_eq_true, decide_eq_true_eq] at hck)
  · obtain ⟨rfl, hn⟩ := hck
    rw [hn] at kk
    exact W.lcmp hx hb hd kk
  · cases hck
def zo_i2l : zNop := fun _ _ _ _ _ k l st h => match st with
  | .int x :: st => zn (k + 1) l (.long (x.toInt64) :: st) h
  | _ => none
def zk_i2l : zCk := fun _ _ _ _ pc ins len _ nx k => match ins with
  | .i2l => decide (len = 1) && decide (nx (k + 1) = pc + 1)
  | _ => false
theorem zs_i2l : z_Sn zo_i2l zk_i2l := by
  intro p l e R s m args below meth c Z D tc adK adV sb sx M nx ad0 n0 C S d Q a b ci k ins len pl hF hK hA hR hd hck lo st h k' lo' st' h' x y hop kc ks hW
  unfold zo_i2l at hop
  split at hop
  case h_2 => cases hop
  next vx st2 =>
  obtain ⟨rfl, rfl, rfl, rfl, rfl, rfl⟩ := zn_inj hop
  obtain ⟨hx, hb, hml, hr, hown, hts, -⟩ := hF
  intro ad H locs ls cells slots q1 q2 q3 q4 q5 q6 q7 q8 q9
  have kk := hW ad H locs ls cells slots q1 q2 q3 q4 q5 q6 (z_okC (z_okV_long _ _) (z_okT q7)) q8 q9
  unfold zk_i2l at hck
  split at hck
  all_goals (try simp only [Bool.and_eq_true, decide_eq_true_eq] at hck)
  · obtain ⟨rfl, hn⟩ := hck
    rw [hn] at kk
    exact lv_i2l hx hb hd rfl kk
  · cases hck
def zo_l2i : zNop := fun _ _ _ _ _ k l st h => match st with
  | .long x :: st => zn (k + 1) l (.int (x.toInt32) :: st) h
  | _ => none
def zk_l2i : zCk := fun _ _ _ _ pc ins len _ nx k => match ins with
  | .l2i => decide (len = 1) && decide (nx (k + 1) = pc + 1)
  | _ => false
theorem zs_l2i : z_Sn zo_l2i zk_l2i := by
  intro p l e R s m args below meth c Z D tc adK adV sb sx M nx ad0 n0 C S d Q a b ci k ins len pl hF hK hA hR hd hck lo st h k' lo' st' h' x y hop kc ks hW
  unfold zo_l2i at hop
  split at hop
  case h_2 => cases hop
  next vx st2 =>
  obtain ⟨rfl, rfl, rfl, rfl, rfl, rfl⟩ := zn_inj hop
  obtain ⟨hx, hb, hml, hr, hown, hts, -⟩ := hF
  intro ad H locs ls cells slots q1 q2 q3 q4 q5 q6 q7 q8 q9
  have kk := hW ad H locs ls cells slots q1 q2 q3 q4 q5 q6 (z_okC (z_okV_int _ _) (z_okT q7)) q8 q9
  unfold zk_l2i at hck
  split at hck
  all_goals (try simp only [Bool.and_eq_true, decide_eq_true_eq] at hck)
  · obtain ⟨rfl, hn⟩ := hck
    rw [hn] at kk
    exact lv_l2i hx hb hd rfl kk
  · cases hck
def zo_i2b : zNop := fun _ _ _ _ _ k l st h => match st with
  | .int x :: st => zn (k + 1) l (.int (x.toInt8.toInt32) :: st) h
  | _ => none
def zk_i2b : zCk := fun _ _ _ _ pc ins len _ nx k => match ins with
  | .i2b => decide (len = 1) && decide (nx (k + 1) = pc + 1)
  | _ => false
theorem zs_i2b : z_Sn zo_i2b zk_i2b := by
  intro p l e R s m args below meth c Z D tc adK adV sb sx M nx ad0 n0 C S d Q a b ci k ins len pl hF hK hA hR hd hck lo st h k' lo' st' h' x y hop kc ks hW
  unfold zo_i2b at hop
  split at hop
  case h_2 => cases hop
  next vx st2 =>
  obtain ⟨rfl, rfl, rfl, rfl, rfl, rfl⟩ := zn_inj hop
  obtain ⟨hx, hb, hml, hr, hown, hts, -⟩ := hF
  intro ad H locs ls cells slots q1 q2 q3 q4 q5 q6 q7 q8 q9
  have kk := hW ad H locs ls cells slots q1 q2 q3 q4 q5 q6 (z_okC (z_okV_int _ _) (z_okT q7)) q8 q9
  unfold zk_i2b at hck
  split at hck
  all_goals (try simp only [Bool.and_eq_true, decide_eq_true_eq] at hck)
  · obtain ⟨rfl, hn⟩ := hck
    rw [hn] at kk
    exact lv_i2b hx hb hd rfl kk
  · cases hck
def zo_lconst : zNop := fun _ _ _ _ c k l st h => zn (k + 1) l (.long (Int64.ofInt c) :: st) h
def zk_lconst : zCk := fun M _ _ c pc ins len pl nx k => match ins with
  | .lconst n => decide (Int64.ofNat (n : Nat) = Int64.ofInt c) && decide (len = 1) && decide (nx (k + 1) = pc + 1)
  | .ldc2_w i => z_w (.constantLong M.1 i (Int64.ofInt c)) (pl.getD 0 0) && decide (len = 3) && decide (nx (k + 1) = pc + 3)
  | _ => false
theorem zs_lconst : z_Sn zo_lconst zk_lconst := by
  intro p l e R s m args below meth c Z D tc adK adV sb sx M nx ad0 n0 C S d Q a b ci k ins len pl hF hK hA hR hd hck lo st h k' lo' st' h' x y hop kc ks hW
  obtain ⟨rfl, rfl, rfl, rfl, rfl, rfl⟩ := zn_inj hop
  obtain ⟨hx, hb, hml, hr, hown, hts, -⟩ := hF
  intro ad H locs ls cells slots q1 q2 q3 q4 q5 q6 q7 q8 q9
  have kk := hW ad H locs ls cells slots q1 q2 q3 q4 q5 q6 (z_okC (z_okV_long _ _) q7) q8 q9
  unfold zk_lconst at hck
  split at hck
  all_goals (try simp only [Bool.and_eq_true, decide_eq_true_eq] at hck)
  · obtain ⟨⟨h1, rfl⟩, hn⟩ := hck
    rw [hn] at kk
    exact lv_lconst hx hb hd h1 kk
  · obtain ⟨⟨h1, rfl⟩, hn⟩ := hck
    rw [hn] at kk
    exact lv_ldc2 hx hb hown (hts _ (z_w_in h1)) hd kk
  · cases hck
def zo_dup : zNop := fun _ _ _ _ _ k l st h => match st with
  | v :: st => if v.category = 1 then zn (k + 1) l (v :: v :: st) h else none
  | _ => none
def zk_dup : zCk := fun _ _ _ _ pc ins len _ nx k => match ins with
  | .dup => decide (len = 1) && decide (nx (k + 1) = pc + 1)
  | _ => false
theorem zs_dup : z_Sn zo_dup zk_dup := by
  intro p l e R s m args below meth c Z D tc adK adV sb sx M nx ad0 n0 C S d Q a b ci k ins len pl hF hK hA hR hd hck lo st h k' lo' st' h' x y hop kc ks hW
  unfold zo_dup at hop
  split at hop
  case h_2 => cases hop
  next v st2 =>
  by_cases hc : v.category = 1
  case neg => rw [if_neg hc] at hop; cases hop
  rw [if_pos hc] at hop
  obtain ⟨rfl, rfl, rfl, rfl, rfl, rfl⟩ := zn_inj hop
  obtain ⟨hx, hb, hml, hr, hown, hts, -⟩ := hF
  intro ad H locs ls cells slots q1 q2 q3 q4 q5 q6 q7 q8 q9
  have kk := hW ad H locs ls cells slots q1 q2 q3 q4 q5 q6 (z_okC (z_ok1 q7) q7) q8 q9
  unfold zk_dup at hck
  split at hck
  all_goals (try simp only [Bool.and_eq_true, decide_eq_true_eq] at hck)
  · obtain ⟨rfl, hn⟩ := hck
    rw [hn] at kk
    exact lv_dup hx hb hd (by rw [z_tr_cat]; exact hc) kk
  · cases hck
def zo_dup2 : zNop := fun _ _ _ _ _ k l st h => match st with
  | v :: w :: st => if v.category = 1 ∧ w.category = 1 then zn (k + 1) l (v :: w :: v :: w :: st) h else none
  | _ => none
def zk_dup2 : zCk := fun _ _ _ _ pc ins len _ nx k => match ins with
  | .dup2 => decide (len = 1) && decide (nx (k + 1) = pc + 1)
  | _ => false
theorem zs_dup2 : z_Sn zo_dup2 zk_dup2 := by
  intro p l e R s m args below meth c Z D tc adK adV sb sx M nx ad0 n0 C S d Q a b ci k ins len pl hF hK hA hR hd hck lo st h k' lo' st' h' x y hop kc ks hW
  unfold zo_dup2 at hop
  split at hop
  case h_2 => cases hop
  next v w st2 =>
  by_cases hc : v.category = 1 ∧ w.category = 1
  case neg => rw [if_neg hc] at hop; cases hop
  rw [if_pos hc] at hop
  obtain ⟨rfl, rfl, rfl, rfl, rfl, rfl⟩ := zn_inj hop
  obtain ⟨hx, hb, hml, hr, hown, hts, -⟩ := hF
  intro ad H locs ls cells slots q1 q2 q3 q4 q5 q6 q7 q8 q9
  have kk := hW ad H locs ls cells slots q1 q2 q3 q4 q5 q6 (z_okC (z_ok1 q7) (z_okC (z_ok1 (z_okT q7)) q7)) q8 q9
  unfold zk_dup2 at hck
  split at hck
  all_goals (try simp only [Bool.and_eq_true, decide_eq_true_eq] at hck)
  · obtain ⟨rfl, hn⟩ := hck
    rw [hn] at kk
    exact lv_dup2_11 hx hb hd (by rw [z_tr_cat]; exact hc.1) (by rw [z_tr_cat]; exact hc.2) kk
  · cases hck
def zo_pop : zNop := fun _ _ _ _ _ k l st h => match st with
  | v :: st => if v.category = 1 then zn (k + 1) l st h else none
  | _ => none
def zk_pop : zCk := fun _ _ _ _ pc ins len _ nx k => match ins with
  | .pop => decide (len = 1) && decide (nx (k + 1) = pc + 1)
  | _ => false
theorem zs_pop : z_Sn zo_pop zk_pop := by
  intro p l e R s m args below meth c Z D tc adK adV sb sx M nx ad0 n0 C S d Q a b ci k ins len pl hF hK hA hR hd hck lo st h k' lo' st' h' x y hop kc ks hW
  unfold zo_pop at hop
  split at hop
  case h_2 => cases hop
  next v st2 =>
  by_cases hc : v.category = 1
  case neg => rw [if_neg hc] at hop; cases hop
  rw [if_pos hc] at hop
  obtain ⟨rfl, rfl, rfl, rfl, rfl, rfl⟩ := zn_inj hop
  obtain ⟨hx, hb, hml, hr, hown, hts, -⟩ := hF
  intro ad H locs ls cells slots q1 q2 q3 q4 q5 q6 q7 q8 q9
  have kk := hW ad H locs ls cells slots q1 q2 q3 q4 q5 q6 (z_okT q7) q8 q9
  unfold zk_pop at hck
  split at hck
  all_goals (try simp only [Bool.and_eq_true, decide_eq_true_eq] at hck)
  · obtain ⟨rfl, hn⟩ := hck
    rw [hn] at kk
    exact lv_pop hx hb hd (by rw [z_tr_cat]; exact hc) kk
  · cases hck
def zo_null : zNop := fun _ _ _ _ _ k l st h => zn (k + 1) l (.null :: st) h
def zk_null : zCk := fun _ _ _ _ pc ins len _ nx k => match ins with
  | .aconst_null => decide (len = 1) && decide (nx (k + 1) = pc + 1)
  | _ => false
theorem zs_null : z_Sn zo_null zk_null := by
  intro p l e R s m args below meth c Z D tc adK adV sb sx M nx ad0 n0 C S d Q a b ci k ins len pl hF hK hA hR hd hck lo st h k' lo' st' h' x y hop kc ks hW
  obtain ⟨rfl, rfl, rfl, rfl, rfl, rfl⟩ := zn_inj hop
  obtain ⟨hx, hb, hml, hr, hown, hts, -⟩ := hF
  intro ad H locs ls cells slots q1 q2 q3 q4 q5 q6 q7 q8 q9
  have kk := hW ad H locs ls cells slots q1 q2 q3 q4 q5 q6 (z_okC (z_okV_null _) q7) q8 q9
  unfold zk_null at hck
  split at hck
  all_goals (try simp only [Bool.and_eq_true, decide_eq_true_eq] at hck)
  · obtain ⟨rfl, hn⟩ := hck
    rw [hn] at kk
    exact lv_null hx hb hd kk
  · cases hck
def zo_goto : zNop := fun _ _ a _ _ _ l st h => zn a l st h
def zk_goto : zCk := fun _ a _ _ pc ins len _ nx _ => match ins with
  | .goto off => decide ((pc : Int) + off = (nx a : Int)) && decide (len = 3)
  | _ => false
theorem zs_goto : z_Sn zo_goto zk_goto := by
  intro p l e R s m args below meth c Z D tc adK adV sb sx M nx ad0 n0 C S d Q a b ci k ins len pl hF hK hA hR hd hck lo st h k' lo' st' h' x y hop kc ks hW
  obtain ⟨rfl, rfl, rfl, rfl, rfl, rfl⟩ := zn_inj hop
  obtain ⟨hx, hb, hml, hr, hown, hts, -⟩ := hF
  intro ad H locs ls cells slots q1 q2 q3 q4 q5 q6 q7 q8 q9
  have kk := hW ad H locs ls cells slots q1 q2 q3 q4 q5 q6 q7 q8 q9
  unfold zk_goto at hck
  split at hck
  all_goals (try simp only [Bool.and_eq_true, decide_eq_true_eq] at hck)
  · obtain ⟨h1, rfl⟩ := hck
    exact lv_goto hx hb hd h1 kk
  · cases hck
/-- which way a comparison goes: 0 eq, 1 ne, 2 lt, 3 ge, 4 gt, 5 le -/
def z_cmp (b : Nat) (x y : Int32) : Bool := match b with
  | 0 => decide (x = y)
  | 1 => !decide (x = y)
  | 2 => decide (x < y)
  | 3 => !decide (x < y)
  | 4 => decide (y < x)
  | _ => !decide (y < x)
def zo_if : zNop := fun _ _ a b _ k l st h => match st with
  | .int x :: st => zn (if z_cmp b x 0 then a else k + 1) l st h
  | _ => none
def zo_icmp : zNop := fun _ _ a b _ k l st h => match st with
  | .int y :: .int x :: st => zn (if z_cmp b x y then a else k + 1) l st h
  | _ => none
def zk_if : zCk := fun _ a b _ pc ins len _ nx k => match ins with
  | .ifCond .eq off => decide (b = 0) && decide ((pc : Int) + off = (nx a : Int)) && decide (len = 3) && decide (nx (k + 1) = pc + 3)
  | .ifCond .ne off => decide (b = 1) && decide ((pc : Int) + off = (nx a : Int)) && decide (len = 3) && decide (nx (k + 1) = pc + 3)
  | .ifCond .lt off => decide (b = 2) && decide ((pc : Int) + off = (nx a : Int)) && decide (len = 3) && decide (nx (k + 1) = pc + 3)
  | .ifCond .ge off => decide (b = 3) && decide ((pc : Int) + off = (nx a : Int)) && decide (len = 3) && decide (nx (k + 1) = pc + 3)
  | .ifCond .gt off => decide (b = 4) && decide ((pc : Int) + off = (nx a : Int)) && decide (len = 3) && decide (nx (k + 1) = pc + 3)
  | .ifCond .le off => decide (b = 5) && decide ((pc : Int) + off = (nx a : Int)) && decide (len = 3) && decide (nx (k + 1) = pc + 3)
  | _ => false
def zk_icmp : zCk := fun _ a b _ pc ins len _ nx k => match ins with
  | .if_icmp .eq off => decide (b = 0) && decide ((pc : Int) + off = (nx a : Int)) && decide (len = 3) && decide (nx (k + 1) = pc + 3)
  | .if_icmp .ne off => decide (b = 1) && decide ((pc : Int) + off = (nx a : Int)) && decide (len = 3) && decide (nx (k + 1) = pc + 3)
  | .if_icmp .lt off => decide (b = 2) && decide ((pc : Int) + off = (nx a : Int)) && decide (len = 3) && decide (nx (k + 1) = pc + 3)
  | .if_icmp .ge off => decide (b = 3) && decide ((pc : Int) + off = (nx a : Int)) && decide (len = 3) && decide (nx (k + 1) = pc + 3)
  | .if_icmp .gt off => decide (b = 4) && decide ((pc : Int) + off = (nx a : Int)) && decide (len = 3) && decide (nx (k + 1) = pc + 3)
  | .if_icmp .le off => decide (b = 5) && decide ((pc : Int) + off = (nx a : Int)) && decide (len = 3) && decide (nx (k + 1) = pc + 3)
  | _ => false
theorem zs_if : z_Sn zo_if zk_if := by
  intro p l e R s m args below meth c Z D tc adK adV sb sx M nx ad0 n0 C S d Q a b ci k ins len pl hF hK hA hR hd hck lo st h k' lo' st' h' x y hop kc ks hW
  unfold zo_if at hop
  split at hop
  case h_2 => cases hop
  next vx st2 =>
  obtain ⟨rfl, rfl, rfl, rfl, rfl, rfl⟩ := zn_inj hop
  obtain ⟨hx, hb, hml, hr, hown, hts, -⟩ := hF
  intro ad H locs ls cells slots q1 q2 q3 q4 q5 q6 q7 q8 q9
  have kk := hW ad H locs ls cells slots q1 q2 q3 q4 q5 q6 (z_okT q7) q8 q9
  unfold zk_if at hck
  split at hck
  all_goals (try simp only [Bool.and_eq_true, decide_eq_true_eq] at hck)
  · obtain ⟨⟨⟨rfl, h1⟩, rfl⟩, hn⟩ := hck
    refine lv_if_eq hx hb hd h1 (fun q => ?_) (fun q => ?_)
    · rw [if_pos (by first | (simp [z_cmp]; done) | (simp [z_cmp, q]; done) | (simpa [z_cmp] using q))] at kk; exact kk
    · rw [if_neg (by first | (simp [z_cmp, q]; done) | (simpa [z_cmp] using q)), hn] at kk; exact kk
  · obtain ⟨⟨⟨rfl, h1⟩, rfl⟩, hn⟩ := hck
    refine lv_if_ne hx hb hd h1 (fun q => ?_) (fun q => ?_)
    · rw [if_pos (by first | (simp [z_cmp]; done) | (simp [z_cmp, q]; done) | (simpa [z_cmp] using q))] at kk; exact kk
    · rw [if_neg (by first | (simp [z_cmp, q]; done) | (simpa [z_cmp] using q)), hn] at kk; exact kk
  · obtain ⟨⟨⟨rfl, h1⟩, rfl⟩, hn⟩ := hck
    refine lv_if_lt hx hb hd h1 (fun q => ?_) (fun q => ?_)
    · rw [if_pos (by first | (simp [z_cmp]; done) | (simp [z_cmp, q]; done) | (simpa [z_cmp] using q))] at kk; exact kk
    · rw [if_neg (by first | (simp [z_cmp, q]; done) | (simpa [z_cmp] using q)), hn] at kk; exact kk
  · obtain ⟨⟨⟨rfl, h1⟩, rfl⟩, hn⟩ := hck
    refine lv_if_ge hx hb hd h1 (fun q => ?_) (fun q => ?_)
    · rw [if_pos (by first | (simp [z_cmp]; done) | (simp [z_cmp, q]; done) | (simpa [z_cmp] using q))] at kk; exact kk
    · rw [if_neg (by first | (simp [z_cmp, q]; done) | (simpa [z_cmp] using q)), hn] at kk; exact kk
  · obtain ⟨⟨⟨rfl, h1⟩, rfl⟩, hn⟩ := hck
    refine lv_if_gt hx hb hd h1 (fun q => ?_) (fun q => ?_)
    · rw [if_pos (by first | (simp [z_cmp]; done) | (simp [z_cmp, q]; done) | (simpa [z_cmp] using q))] at kk; exact kk
    · rw [if_neg (by first | (simp [z_cmp, q]; done) | (simpa [z_cmp] using q)), hn] at kk; exact kk
  · obtain ⟨⟨⟨rfl, h1⟩, rfl⟩, hn⟩ := hck
    refine lv_if_le hx hb hd h1 (fun q => ?_) (fun q => ?_)
    · rw [if_pos (by first | (simp [z_cmp]; done) | (simp [z_cmp, q]; done) | (simpa [z_cmp] using q))] at kk; exact kk
    · rw [if_neg (by first | (simp [z_cmp, q]; done) | (simpa [z_cmp] using q)), hn] at kk; exact kk
  · cases hck
theorem zs_icmp : z_Sn zo_icmp zk_icmp := by
  intro p l e R s m args below meth c Z D tc adK adV sb sx M nx ad0 n0 C S d Q a b ci k ins len pl hF hK hA hR hd hck lo st h k' lo' st' h' x y hop kc ks hW
  unfold zo_icmp at hop
  split at hop
  case h_2 => cases hop
  next vy vx st2 =>
  obtain ⟨rfl, rfl, rfl, rfl, rfl, rfl⟩ := zn_inj hop
  obtain ⟨hx, hb, hml, hr, hown, hts, -⟩ := hF
  intro ad H locs ls cells slots q1 q2 q3 q4 q5 q6 q7 q8 q9
  have kk := hW ad H locs ls cells slots q1 q2 q3 q4 q5 q6 (z_okT (z_okT q7)) q8 q9
  unfold zk_icmp at hck
  split at hck
  all_goals (try simp only [Bool.and_eq_true, decide_eq_true_eq] at hck)
  · obtain ⟨⟨⟨rfl, h1⟩, rfl⟩, hn⟩ := hck
    refine lv_icmp_eq hx hb hd h1 (fun q => ?_) (fun q => ?_)
    · rw [if_pos (by first | (simp [z_cmp]; done) | (simp [z_cmp, q]; done) | (simpa [z_cmp] using q))] at kk; exact kk
    · rw [if_neg (by first | (simp [z_cmp, q]; done) | (simpa [z_cmp] using q)), hn] at kk; exact kk
  · obtain ⟨⟨⟨rfl, h1⟩, rfl⟩, hn⟩ := hck
    refine lv_icmp_ne hx hb hd h1 (fun q => ?_) (fun q => ?_)
    · rw [if_pos (by first | (simp [z_cmp]; done) | (simp [z_cmp, q]; done) | (simpa [z_cmp] using q))] at kk; exact kk
    · rw [if_neg (by first | (simp [z_cmp, q]; done) | (simpa [z_cmp] using q)), hn] at kk; exact kk
  · obtain ⟨⟨⟨rfl, h1⟩, rfl⟩, hn⟩ := hck
    refine lv_icmp_lt hx hb hd h1 (fun q => ?_) (fun q => ?_)
    · rw [if_pos (by first | (simp [z_cmp]; done) | (simp [z_cmp, q]; done) | (simpa [z_cmp] using q))] at kk; exact kk
    · rw [if_neg (by first | (simp [z_cmp, q]; done) | (simpa [z_cmp] using q)), hn] at kk; exact kk
  · obtain ⟨⟨⟨rfl, h1⟩, rfl⟩, hn⟩ := hck
    refine lv_icmp_ge hx hb hd h1 (fun q => ?_) (fun q => ?_)
    · rw [if_pos (by first | (simp [z_cmp]; done) | (simp [z_cmp, q]; done) | (simpa [z_cmp] using q))] at kk; exact kk
    · rw [if_neg (by first | (simp [z_cmp, q]; done) | (simpa [z_cmp] using q)), hn] at kk; exact kk
  · obtain ⟨⟨⟨rfl, h1⟩, rfl⟩, hn⟩ := hck
    refine lv_icmp_gt hx hb hd h1 (fun q => ?_) (fun q => ?_)
    · rw [if_pos (by first | (simp [z_cmp]; done) | (simp [z_cmp, q]; done) | (simpa [z_cmp] using q))] at kk; exact kk
    · rw [if_neg (by first | (simp [z_cmp, q]; done) | (simpa [z_cmp] using q)), hn] at kk; exact kk
  · obtain ⟨⟨⟨rfl, h1⟩, rfl⟩, hn⟩ := hck
    refine lv_icmp_le hx hb hd h1 (fun q => ?_) (fun q => ?_)
    · rw [if_pos (by first | (simp [z_cmp]; done) | (simp [z_cmp, q]; done) | (simpa [z_cmp] using q))] at kk; exact kk
    · rw [if_neg (by first | (simp [z_cmp, q]; done) | (simpa [z_cmp] using q)), hn] at kk; exact kk
  · cases hck
def zo_ifnn : zNop := fun _ _ a _ _ k l st h => match st with
  | .ref _ :: st => zn a l st h
  | .null :: st => zn (k + 1) l st h
  | _ => none
def zk_ifnn : zCk := fun _ a _ _ pc ins len _ nx k => match ins with
  | .ifnonnull off => decide ((pc : Int) + off = (nx a : Int)) && decide (len = 3) && decide (nx (k + 1) = pc + 3)
  | _ => false
theorem zs_ifnn : z_Sn zo_ifnn zk_ifnn := by
  intro p l e R s m args below meth c Z D tc adK adV sb sx M nx ad0 n0 C S d Q a b ci k ins len pl hF hK hA hR hd hck lo st h k' lo' st' h' x y hop kc ks hW
  unfold zk_ifnn at hck
  split at hck
  case h_2 => cases hck
  next off =>
  simp only [Bool.and_eq_true, decide_eq_true_eq] at hck
  obtain ⟨⟨h1, rfl⟩, hn⟩ := hck
  unfold zo_ifnn at hop
  split at hop
  · obtain ⟨rfl, rfl, rfl, rfl, rfl, rfl⟩ := zn_inj hop
    obtain ⟨hx, hb, hml, hr, hown, hts, -⟩ := hF
    intro ad H locs ls cells slots q1 q2 q3 q4 q5 q6 q7 q8 q9
    exact lv_ifnonnull hx hb hd h1 (hW ad H locs ls cells slots q1 q2 q3 q4 q5 q6 (z_okT q7) q8 q9)
  · obtain ⟨rfl, rfl, rfl, rfl, rfl, rfl⟩ := zn_inj hop
    obtain ⟨hx, hb, hml, hr, hown, hts, -⟩ := hF
    intro ad H locs ls cells slots q1 q2 q3 q4 q5 q6 q7 q8 q9
    have kk := hW ad H locs ls cells slots q1 q2 q3 q4 q5 q6 (z_okT q7) q8 q9
    rw [hn] at kk
    exact lv_ifnonnullN hx hb hd kk
  · cases hop
/-! switches -/
def z_swt (t : Int × List Nat × Nat) (x : Int32) : Nat := if x.toInt < t.1 then t.2.2 else (t.2.1[(x.toInt - t.1).toNat]?).getD t.2.2
def zo_tsw : zNop := fun _ _ a _ _ _ l st h => match st with
  | .int x :: st => match z_sw[a]? with
    | some t => zn (z_swt t x) l st h
    | none => none
  | _ => none
def zk_tsw : zCk := fun _ a _ _ pc ins _ _ nx _ => match ins with
  | .tableswitch dflt lo hi offs => match z_sw[a]? with
    | some t => decide (t.1 = lo) && decide ((pc : Int) + dflt = (nx t.2.2 : Int)) && decide (hi - lo + 1 = (t.2.1.length : Int)) && decide (offs.toList.map (fun o => (pc : Int) + o) = t.2.1.map (fun n => (nx n : Int)))
    | none => false
  | _ => false
theorem zs_tsw : z_Sn zo_tsw zk_tsw := by
  intro p l e R s m args below meth c Z D tc adK adV sb sx M nx ad0 n0 C S d Q a b ci k ins len pl hF hK hA hR hd hck lo st h k' lo' st' h' x y hop kc ks hW
  unfold zo_tsw at hop
  split at hop
  case h_2 => cases hop
  next vx st2 =>
  split at hop
  case h_2 => cases hop
  next t ht =>
  obtain ⟨rfl, rfl, rfl, rfl, rfl, rfl⟩ := zn_inj hop
  obtain ⟨hx, hb, hml, hr, hown, hts, -⟩ := hF
  intro ad H locs ls cells slots q1 q2 q3 q4 q5 q6 q7 q8 q9
  have kk := hW ad H locs ls cells slots q1 q2 q3 q4 q5 q6 (z_okT q7) q8 q9
  unfold zk_tsw at hck
  split at hck
  case h_2 => cases hck
  next dflt lo hi offs =>
  rw [ht] at hck
  simp only [Bool.and_eq_true, decide_eq_true_eq] at hck
  obtain ⟨⟨⟨h1, h2⟩, h3⟩, h4⟩ := hck
  have hlen : offs.toList.length = t.2.1.length := by have := congrArg List.length h4; simpa using this
  by_cases c1 : vx.toInt < lo
  · unfold z_swt at kk
    rw [h1, if_pos c1] at kk
    exact lv_tableOut hx hb hd (Or.inl c1) h2 kk
  · by_cases c2 : hi < vx.toInt
    · unfold z_swt at kk
      rw [h1, if_neg c1, List.getElem?_eq_none (by omega), Option.getD_none] at kk
      exact lv_tableOut hx hb hd (Or.inr c2) h2 kk
    · have hlt : (vx.toInt - lo).toNat < t.2.1.length := by omega
      have hlt2 : (vx.toInt - lo).toNat < offs.toList.length := by omega
      unfold z_swt at kk
      rw [h1, if_neg c1, List.getElem?_eq_getElem hlt, Option.getD_some] at kk
      have e1 : (offs.toList.map (fun o => ((nx k : Nat) : Int) + o))[(vx.toInt - lo).toNat]? = (t.2.1.map (fun n => (nx n : Int)))[(vx.toInt - lo).toNat]? := by rw [h4]
      rw [List.getElem?_map, List.getElem?_map, List.getElem?_eq_getElem hlt, List.getElem?_eq_getElem hlt2] at e1
      refine lv_tableIn hx hb hd c1 c2 (off := offs.toList[(vx.toInt - lo).toNat]) ?_ (by simpa using e1) kk
      rw [← Array.getElem?_toList, List.getElem?_eq_getElem hlt2]
def z_lkt (t : List (Int × Nat) × Nat) (x : Int32) : Nat := ((t.1.find? (fun q => decide (q.1 = x.toInt))).map (fun q => q.2)).getD t.2
def zo_lsw : zNop := fun _ _ a _ _ _ l st h => match st with
  | .int x :: st => match z_lk[a]? with
    | some t => zn (z_lkt t x) l st h
    | none => none
  | _ => none
end
section
/-! the last switch -/
def z_lkr : List (Int × Nat) → Nat → Int → Nat
  | [], d, _ => d
  | (a, n) :: r, d, k => if a = k then n else z_lkr r d k
def zo_lsw2 : zNop := fun _ _ a _ _ _ l st h => match st with
  | .int x :: st => match z_lk[a]? with
    | some t => zn (z_lkr t.1 t.2 x.toInt) l st h
    | none => none
  | _ => none
def zk_lsw2 : zCk := fun _ a _ _ pc ins _ _ nx _ => match ins with
  | .lookupswitch dflt ps => match z_lk[a]? with
    | some t => decide ((pc : Int) + dflt = (nx t.2 : Int)) && decide (ps.toList.map (fun q => (q.1, (pc : Int) + q.2)) = t.1.map (fun q => (q.1, (nx q.2 : Int)))) && (ps.toList.zip (ps.toList.drop 1)).all (fun (a, next) => a.1 < next.1)
    | none => false
  | _ => false
theorem z_lkr_ok (nx : Nat → Nat) (pc : Nat) (d : Nat) (dflt key : Int) (hdf : (pc : Int) + dflt = (nx d : Int)) : ∀ (ps : List (Int × Int)) (t : List (Int × Nat)), ps.map (fun q => (q.1, (pc : Int) + q.2)) = t.map (fun q => (q.1, (nx q.2 : Int))) → (pc : Int) + Op.lookupswitch.offset ps dflt key = (nx (z_lkr t d key) : Int)
  | [], [], _ => hdf
  | [], _ :: _, h => by simp at h
  | _ :: _, [], h => by simp at h
  | (a, o) :: ps, (b, n) :: t, h => by
    simp only [List.map_cons, List.cons.injEq, Prod.mk.injEq] at h
    obtain ⟨⟨h1, h2⟩, h3⟩ := h
    subst h1
    rw [Op.lookupswitch.offset_cons, z_lkr]
    by_cases hk : a = key
    · rw [if_pos hk, if_pos hk]; exact h2
    · rw [if_neg hk, if_neg hk]; exact z_lkr_ok nx pc d dflt key hdf ps t h3
theorem zs_lsw2 : z_Sn zo_lsw2 zk_lsw2 := by
  intro p l e R s m args below meth c Z D tc adK adV sb sx M nx ad0 n0 C S d Q a b ci k ins len pl hF hK hA hR hd hck lo st h k' lo' st' h' x y hop kc ks hW
  unfold zo_lsw2 at hop
  split at hop
  case h_2 => cases hop
  next vx st2 =>
  split at hop
  case h_2 => cases hop
  next t ht =>
  obtain ⟨rfl, rfl, rfl, rfl, rfl, rfl⟩ := zn_inj hop
  obtain ⟨hx, hb, hml, hr, hown, hts, -⟩ := hF
  intro ad H locs ls cells slots q1 q2 q3 q4 q5 q6 q7 q8 q9
  have kk := hW ad H locs ls cells slots q1 q2 q3 q4 q5 q6 (z_okT q7) q8 q9
  unfold zk_lsw2 at hck
  split at hck
  case h_2 => cases hck
  next dflt ps =>
  rw [ht] at hck
  simp only [Bool.and_eq_true, decide_eq_true_eq] at hck
  obtain ⟨⟨h1, h2⟩, h3⟩ := hck
  exact lv_lookup hx hb hd h3 rfl (z_lkr_ok nx (nx k) t.2 dflt vx.toInt h1 ps.toList t.1 h2) kk
/-! the classes of the objects -/
theorem z_pl {ws : List Cond} (ps : List Nat) (hl : ws.length = ps.length) (h : (ws.zip ps).all (fun q => z_w q.1 q.2) = true) : ∀ w ∈ ws, w ∈ z_T := by
  intro w hw
  obtain ⟨i, hi, he⟩ := List.mem_iff_getElem.mp hw
  have hz : (w, ps[i]'(by omega)) ∈ ws.zip ps := by
    rw [← he]
    exact List.mem_iff_getElem.mpr ⟨i, by rw [List.length_zip]; omega, by simp⟩
  exact z_w_in (List.all_eq_true.mp h _ hz)
def z_clsP (ci : Nat) (q : vw_C) : Prop := (∀ w ∈ u_ws q.1 q.2.1 q.2.2, w ∈ z_T) ∧ ∃ ty : Nat → FieldType, (∀ k, k < q.2.2 → parseFieldDescriptor (q.2.1 k).2.2.1 = some (ty k)) ∧ (∀ a, a < q.2.2 → ∀ b, b < q.2.2 → a ≠ b → (q.2.1 a).2.1 ≠ (q.2.1 b).2.1) ∧ ∀ j, j < q.2.2 → defaultValue (ty j) = vp_V (z_df.getD ci []) j
theorem z_cls0 : z_clsP 0 (RX1, TX1, 5) := ⟨z_pl z_lp0 rfl (by decide +kernel), tyX1, tyX1_ok, nmX1, by decide +kernel⟩
theorem z_cls1 : z_clsP 1 (RX2, TX2, 18) := ⟨z_pl z_lp1 rfl (by decide +kernel), tyX2, tyX2_ok, nmX2, by decide +kernel⟩
theorem z_cls2 : z_clsP 2 (RX3, TX3, 6) := ⟨z_pl z_lp2 rfl (by decide +kernel), tyX3, tyX3_ok, nmX3, by decide +kernel⟩
theorem z_cls3 : z_clsP 3 (RX4, TX4, 6) := ⟨z_pl z_lp3 rfl (by decide +kernel), tyX4, tyX4_ok, nmX4, by decide +kernel⟩
theorem z_cls4 : z_clsP 4 (RX5, TX5, 3) := ⟨z_pl z_lp4 rfl (by decide +kernel), tyX5, tyX5_ok, nmX5, by decide +kernel⟩
theorem z_cls5 : z_clsP 5 (RX6, TX6, 3) := ⟨z_pl z_lp5 rfl (by decide +kernel), tyX6, tyX6_ok, nmX6, by decide +kernel⟩
theorem z_cls6 : z_clsP 6 (RX8, TX8, 4) := ⟨z_pl z_lp6 rfl (by decide +kernel), tyX8, tyX8_ok, nmX8, by decide +kernel⟩
theorem z_cls7 : z_clsP 7 (RX9, TX9, 4) := ⟨z_pl z_lp7 rfl (by decide +kernel), tyX9, tyX9_ok, nmX9, by decide +kernel⟩
theorem z_cls8 : z_clsP 8 (RX11, TX11, 8) := ⟨z_pl z_lp8 rfl (by decide +kernel), tyX11, tyX11_ok, nmX11, by decide +kernel⟩
theorem z_cls9 : z_clsP 9 (RX12, TX12, 23) := ⟨z_pl z_lp9 rfl (by decide +kernel), tyX12, tyX12_ok, nmX12, by decide +kernel⟩
theorem z_cls : ∀ (ci : Nat) (q : vw_C), vwCl[ci]? = some q → z_clsP ci q
  | 0, q, h => by cases h; exact z_cls0
  | 1, q, h => by cases h; exact z_cls1
  | 2, q, h => by cases h; exact z_cls2
  | 3, q, h => by cases h; exact z_cls3
  | 4, q, h => by cases h; exact z_cls4
  | 5, q, h => by cases h; exact z_cls5
  | 6, q, h => by cases h; exact z_cls6
  | 7, q, h => by cases h; exact z_cls7
  | 8, q, h => by cases h; exact z_cls8
  | 9, q, h => by cases h; exact z_cls9
  | n + 10, q, h => by simp [vwCl] at h
/-! fields -/
def zo_get : zNop := fun _ _ a b _ k l st h => match st with
  | .ref i :: st => match h[i]? with
    | some (.inr (c, fs)) => if c = a then (match fs[b]? with | some v => zn (k + 1) l (v :: st) h | none => none) else none
    | _ => none
  | _ => none
def zk_get : zCk := fun M a b _ pc ins len pl nx k => match ins with
  | .getfield idx => decide (len = 3) && decide (nx (k + 1) = pc + 3) && (match vwCl[a]? with
    | some q => decide (b < q.2.2) && z_w (.fieldLink M.1 idx (q.2.1 b).1 (q.2.1 b).2.1 (q.2.1 b).2.2.1) (pl.getD 0 0)
    | none => false)
  | _ => false
theorem z_R_fs {Z : Nat} {D : va_G} {tc : Nat → ClassId} {ad : Nat → Nat} {h : zH} {H : Heap} (hR : z_R Z D tc ad h H) {i c : Nat} {fs : List Value} (he : h[i]? = some (.inr (c, fs))) {v : Value} (hv : v ∈ fs) : z_okV h.length v := hR.2.2.1 _ (List.mem_of_getElem? he) v hv
theorem zs_get : z_Sn zo_get zk_get := by
  intro p l e R s m args below meth c Z D tc adK adV sb sx M nx ad0 n0 C S d Q a b ci k ins len pl hF hK hA hR hd hck lo st h k' lo' st' h' x y hop kc ks hW
  unfold zo_get at hop
  split at hop
  case h_2 => cases hop
  next i st2 =>
  split at hop
  case h_2 => cases hop
  next c' fs he =>
  by_cases hca : c' = a
  case neg => rw [if_neg hca] at hop; cases hop
  rw [if_pos hca] at hop
  subst hca
  split at hop
  case h_2 => cases hop
  next v hv =>
  obtain ⟨rfl, rfl, rfl, rfl, rfl, rfl⟩ := zn_inj hop
  obtain ⟨hx, hb, hml, hr, hown, hts, -⟩ := hF
  intro ad H locs ls cells slots q1 q2 q3 q4 q5 q6 q7 q8 q9
  have kk := hW ad H locs ls cells slots q1 q2 q3 q4 q5 q6 (z_okC (z_R_fs q1 he (List.mem_of_getElem? hv)) (z_okT q7)) q8 q9
  unfold zk_get at hck
  split at hck
  case h_2 => cases hck
  next idx =>
  simp only [Bool.and_eq_true, decide_eq_true_eq] at hck
  obtain ⟨⟨rfl, hn⟩, hck⟩ := hck
  rw [hn] at kk
  split at hck
  case h_2 => cases hck
  next q hq =>
  simp only [Bool.and_eq_true, decide_eq_true_eq] at hck
  obtain ⟨h1, h2⟩ := hck
  exact va_get (C := q.1) (T := q.2.1) (N := q.2.2) hx hb hts (z_cls c' q hq).1 hown hK.2.1 q1.1 i (z_ws_get he) hq b h1 (hts _ (z_w_in h2)) (fun _ h9 => h9) (v := z_tr ad v) (by rw [List.getElem?_map, hv]; rfl) hd kk
/-- what a field of kind c (0 int, 1 boolean, 2 reference) may hold -/
def z_fit (c : Int) (v : Value) : Bool := match v with
  | .int x => decide (c = 0) || (decide (c = 1) && (decide (x = 0) || decide (x = 1)))
  | .ref _ => decide (c = 2)
  | .null => decide (c = 2)
  | _ => false
def z_kind (c : Int) (t : Option FieldType) : Bool := match t with
  | some .int => decide (c = 0)
  | some .boolean => decide (c = 1)
  | some (.object _) => decide (c = 2)
  | some (.array _) => decide (c = 2)
  | _ => false
theorem z_fit_ok {c : Int} {v : Value} {ty : FieldType} (ad : Nat → Nat) (h : z_fit c v = true) (hk : z_kind c (some ty) = true) : narrow ty (z_tr ad v) = z_tr ad v ∧ fits ty (z_tr ad v) = true := by
  cases ty <;> simp only [z_kind, decide_eq_true_eq, Bool.false_eq_true] at hk <;> subst hk <;> cases v <;> simp [z_fit] at h <;> simp [z_tr, narrow, fits]
  rcases h with rfl | rfl <;> decide
def zo_put : zNop := fun _ _ a b c k l st h => match st with
  | v :: .ref i :: st => match h[i]? with
    | some (.inr (c', fs)) => if c' = a ∧ b < fs.length ∧ z_fit c v = true then zn (k + 1) l st (h.set i (.inr (c', fs.set b v))) else none
    | _ => none
  | _ => none
def zk_put : zCk := fun M a b c pc ins len pl nx k => match ins with
  | .putfield idx => decide (len = 3) && decide (nx (k + 1) = pc + 3) && (match vwCl[a]? with
    | some q => decide (b < q.2.2) && z_w (.fieldLink M.1 idx (q.2.1 b).1 (q.2.1 b).2.1 (q.2.1 b).2.2.1) (pl.getD 0 0) && z_kind c (parseFieldDescriptor (q.2.1 b).2.2.1) && (!(q.2.1 b).2.2.2 || (decide (M.2.1.name = "<init>") && decide ((q.2.1 b).1 = M.1)))
    | none => false)
  | _ => false
theorem zs_put : z_Sn zo_put zk_put := by
  intro p l e R s m args below meth c Z D tc adK adV sb sx M nx ad0 n0 C S d Q a b ci k ins len pl hF hK hA hR hd hck lo st h k' lo' st' h' x y hop kc ks hW
  unfold zo_put at hop
  split at hop
  case h_2 => cases hop
  next v i st2 =>
  split at hop
  case h_2 => cases hop
  next c' fs he =>
  by_cases hca : c' = a ∧ b < fs.length ∧ z_fit ci v = true
  case neg => rw [if_neg hca] at hop; cases hop
  rw [if_pos hca] at hop
  obtain ⟨rfl, hbl, hft⟩ := hca
  obtain ⟨rfl, rfl, rfl, rfl, rfl, rfl⟩ := zn_inj hop
  obtain ⟨hx, hb, hml, hr, hown, hts, -, -, hnm⟩ := hF
  intro ad H locs ls cells slots q1 q2 q3 q4 q5 q6 q7 q8 q9
  unfold zk_put at hck
  split at hck
  case h_2 => cases hck
  next idx =>
  simp only [Bool.and_eq_true, decide_eq_true_eq] at hck
  obtain ⟨⟨rfl, hn⟩, hck⟩ := hck
  split at hck
  case h_2 => cases hck
  next q hq =>
  simp only [Bool.and_eq_true, decide_eq_true_eq] at hck
  obtain ⟨⟨⟨h1, h2⟩, h3⟩, h4⟩ := hck
  obtain ⟨ty, hty, hnd, -⟩ := (z_cls c' q hq).2
  have hty1 := hty b h1
  rw [hty1] at h3
  obtain ⟨f1, f2⟩ := z_fit_ok ad hft h3
  have fin : ∀ (H1 : Heap) (locs1 : List Loc), va_P D vwCl ((z_ws ad tc h).set i (ad i, .inr (c', (fs.map (z_tr ad)).set b (z_tr ad v)))) H1 → va_D (fun q => Z ≤ q) ((z_ws ad tc h).set i (ad i, .inr (c', (fs.map (z_tr ad)).set b (z_tr ad v)))) → va_S (fun q => Z ≤ q) s.heap H1 locs1 → W p l e R s m args below meth c H1 locs1 cells slots Q (F0 m (nx k + 3) ls (st'.map (z_tr ad))) := by
    intro H1 locs1 g1 g2 g3
    rw [← List.map_set] at g1 g2
    have okE : z_okE h.length (.inr (c', fs.set b v)) := fun w hw => by
      rcases List.mem_or_eq_of_mem_set hw with z | z
      · exact z_R_fs q1 he z
      · rw [z]; exact z_ok1 q7
    have kk := hW ad H1 locs1 ls cells slots (q1.set (e := .inr (c', fs.set b v)) g1 g2 okE) q2 (by rw [List.length_set]; exact q3) g3 q5 (by rw [List.length_set]; exact q6) (by rw [List.length_set]; exact z_okT (z_okT q7)) q8 q9
    rw [hn] at kk
    exact kk
  by_cases hfin : (q.2.1 b).2.2.2 = true
  · rw [hfin] at h4
    simp only [Bool.not_true, Bool.false_or, Bool.and_eq_true, decide_eq_true_eq] at h4
    exact va_putF (C := q.1) (T := q.2.1) (N := q.2.2) hx hb hts (z_cls c' q hq).1 ty hty hnd hown hK.2.1 q1.1 q1.2.1 q4 i (z_ws_get he) hq b h1 (hts _ (z_w_in h2)) (fun _ h9 => h9) hfin (by rw [hnm]; exact h4.1) h4.2 hty1 f1 f2 (by rw [List.length_map]; exact hbl) hd fin
  · exact va_put (C := q.1) (T := q.2.1) (N := q.2.2) hx hb hts (z_cls c' q hq).1 ty hty hnd hown hK.2.1 q1.1 q1.2.1 q4 i (z_ws_get he) hq b h1 (hts _ (z_w_in h2)) (fun _ h9 => h9) (by simpa using hfin) hty1 f1 f2 (by rw [List.length_map]; exact hbl) hd fin
end
section
/-! arrays -/
def z_in (i : Int32) (n : Nat) : Bool := !(decide (i < 0) || decide (n ≤ i.toNatClampNeg))
theorem z_in_ok {i : Int32} {n : Nat} (h : z_in i n = true) : vp_in i n := by
  unfold z_in at h
  simp only [Bool.not_eq_true', Bool.or_eq_false_iff, decide_eq_false_iff_not] at h
  exact fun q => q.elim h.1 h.2
def zo_iald : zNop := fun _ _ _ _ _ k l st h => match st with
  | .int j :: .ref i :: st => match h[i]? with
    | some (.inl (0, (n, .inl f))) => if z_in j n = true then zn (k + 1) l (.int (f j.toNatClampNeg) :: st) h else none
    | _ => none
  | _ => none
def zk_iald : zCk := fun _ _ _ _ pc ins len _ nx k => match ins with
  | .iaload => decide (len = 1) && decide (nx (k + 1) = pc + 1)
  | _ => false
theorem zs_iald : z_Sn zo_iald zk_iald := by
  intro p l e R s m args below meth c Z D tc adK adV sb sx M nx ad0 n0 C S d Q a b ci k ins len pl hF hK hA hR hd hck lo st h k' lo' st' h' x y hop kc ks hW
  unfold zo_iald at hop
  split at hop
  case h_2 => cases hop
  next j i st2 =>
  split at hop
  case h_2 => cases hop
  next n f he =>
  by_cases hj : z_in j n = true
  case neg => rw [if_neg hj] at hop; cases hop
  rw [if_pos hj] at hop
  obtain ⟨rfl, rfl, rfl, rfl, rfl, rfl⟩ := zn_inj hop
  obtain ⟨hx, hb, hml, hr, hown, hts, -⟩ := hF
  intro ad H locs ls cells slots q1 q2 q3 q4 q5 q6 q7 q8 q9
  have kk := hW ad H locs ls cells slots q1 q2 q3 q4 q5 q6 (z_okC (z_okV_int _ _) (z_okT (z_okT q7))) q8 q9
  unfold zk_iald at hck
  split at hck
  case h_2 => cases hck
  simp only [Bool.and_eq_true, decide_eq_true_eq] at hck
  obtain ⟨rfl, hn⟩ := hck
  rw [hn] at kk
  
  exact va_iald hx hb hK.2.1 q1.1 i 0 (z_ws_get he) rfl (z_in_ok hj) hd kk
def zo_bald : zNop := fun _ _ _ _ _ k l st h => match st with
  | .int j :: .ref i :: st => match h[i]? with
    | some (.inl (1, (n, .inl f))) => if z_in j n = true then zn (k + 1) l (.int (f j.toNatClampNeg) :: st) h else none
    | _ => none
  | _ => none
def zk_bald : zCk := fun _ _ _ _ pc ins len _ nx k => match ins with
  | .baload => decide (len = 1) && decide (nx (k + 1) = pc + 1)
  | _ => false
theorem zs_bald : z_Sn zo_bald zk_bald := by
  intro p l e R s m args below meth c Z D tc adK adV sb sx M nx ad0 n0 C S d Q a b ci k ins len pl hF hK hA hR hd hck lo st h k' lo' st' h' x y hop kc ks hW
  unfold zo_bald at hop
  split at hop
  case h_2 => cases hop
  next j i st2 =>
  split at hop
  case h_2 => cases hop
  next n f he =>
  by_cases hj : z_in j n = true
  case neg => rw [if_neg hj] at hop; cases hop
  rw [if_pos hj] at hop
  obtain ⟨rfl, rfl, rfl, rfl, rfl, rfl⟩ := zn_inj hop
  obtain ⟨hx, hb, hml, hr, hown, hts, -⟩ := hF
  intro ad H locs ls cells slots q1 q2 q3 q4 q5 q6 q7 q8 q9
  have kk := hW ad H locs ls cells slots q1 q2 q3 q4 q5 q6 (z_okC (z_okV_int _ _) (z_okT (z_okT q7))) q8 q9
  unfold zk_bald at hck
  split at hck
  case h_2 => cases hck
  simp only [Bool.and_eq_true, decide_eq_true_eq] at hck
  obtain ⟨rfl, hn⟩ := hck
  rw [hn] at kk
  
  exact va_bald hx hb hK.2.1 q1.1 i 1 (z_ws_get he) rfl (z_in_ok hj) hd kk
theorem z_rf_tr (ad : Nat → Nat) (r : Option Nat) : va_rf (r.map ad) = z_tr ad (va_rf r) := by cases r <;> rfl
def zo_aald : zNop := fun _ _ _ _ _ k l st h => match st with
  | .int j :: .ref i :: st => match h[i]? with
    | some (.inl (3, (n, .inr (.inr (.inr (.inr f)))))) => if z_in j n = true then zn (k + 1) l (va_rf (f j.toNatClampNeg) :: st) h else none
    | _ => none
  | _ => none
def zk_aald : zCk := fun _ _ _ _ pc ins len _ nx k => match ins with
  | .aaload => decide (len = 1) && decide (nx (k + 1) = pc + 1)
  | _ => false
theorem zs_aald : z_Sn zo_aald zk_aald := by
  intro p l e R s m args below meth c Z D tc adK adV sb sx M nx ad0 n0 C S d Q a b ci k ins len pl hF hK hA hR hd hck lo st h k' lo' st' h' x y hop kc ks hW
  unfold zo_aald at hop
  split at hop
  case h_2 => cases hop
  next j i st2 =>
  split at hop
  case h_2 => cases hop
  next n f he =>
  by_cases hj : z_in j n = true
  case neg => rw [if_neg hj] at hop; cases hop
  rw [if_pos hj] at hop
  obtain ⟨rfl, rfl, rfl, rfl, rfl, rfl⟩ := zn_inj hop
  obtain ⟨hx, hb, hml, hr, hown, hts, -⟩ := hF
  intro ad H locs ls cells slots q1 q2 q3 q4 q5 q6 q7 q8 q9
  have hok : z_okV h'.length (va_rf (f j.toNatClampNeg)) := by
    have h0 : ∀ j i, f j = some i → i < h'.length := q1.2.2.1 _ (List.mem_of_getElem? he)
    cases hf : f j.toNatClampNeg with
    | none => exact z_okV_null _
    | some i9 => exact fun z hz => by cases hz; exact Or.inl (h0 _ _ hf)
  have kk := hW ad H locs ls cells slots q1 q2 q3 q4 q5 q6 (z_okC hok (z_okT (z_okT q7))) q8 q9
  unfold zk_aald at hck
  split at hck
  case h_2 => cases hck
  simp only [Bool.and_eq_true, decide_eq_true_eq] at hck
  obtain ⟨rfl, hn⟩ := hck
  rw [hn, List.map_cons, ← z_rf_tr] at kk
  exact va_aldq hx hb hK.2.1 q1.1 i 3 (z_ws_get he) rfl (z_in_ok hj) hd kk
def zo_iast : zNop := fun _ _ _ _ _ k l st h => match st with
  | .int v :: .int j :: .ref i :: st => match h[i]? with
    | some (.inl (0, (n, .inl f))) => if z_in j n = true then zn (k + 1) l st (h.set i (.inl (0, (n, .inl (upd f j.toNatClampNeg v))))) else none
    | _ => none
  | _ => none
def zk_iast : zCk := fun _ _ _ _ pc ins len _ nx k => match ins with
  | .iastore => decide (len = 1) && decide (nx (k + 1) = pc + 1)
  | _ => false
theorem zs_iast : z_Sn zo_iast zk_iast := by
  intro p l e R s m args below meth c Z D tc adK adV sb sx M nx ad0 n0 C S d Q a b ci k ins len pl hF hK hA hR hd hck lo st h k' lo' st' h' x y hop kc ks hW
  unfold zo_iast at hop
  split at hop
  case h_2 => cases hop
  next v j i st2 =>
  split at hop
  case h_2 => cases hop
  next n f he =>
  by_cases hj : z_in j n = true
  case neg => rw [if_neg hj] at hop; cases hop
  rw [if_pos hj] at hop
  obtain ⟨rfl, rfl, rfl, rfl, rfl, rfl⟩ := zn_inj hop
  obtain ⟨hx, hb, hml, hr, hown, hts, -⟩ := hF
  intro ad H locs ls cells slots q1 q2 q3 q4 q5 q6 q7 q8 q9
  unfold zk_iast at hck
  split at hck
  case h_2 => cases hck
  simp only [Bool.and_eq_true, decide_eq_true_eq] at hck
  obtain ⟨rfl, hn⟩ := hck
  refine va_iast hx hb hK.2.1 q1.1 q1.2.1 q4 i 0 (z_ws_get he) rfl (z_in_ok hj) hd fun H1 locs1 g1 g2 g3 => ?_
  have kk := hW ad H1 locs1 ls cells slots (q1.set (e := .inl (0, (n, .inl (upd f j.toNatClampNeg v)))) g1 g2 trivial) q2 (by rw [List.length_set]; exact q3) g3 q5 (by rw [List.length_set]; exact q6) (by rw [List.length_set]; exact z_okT (z_okT (z_okT q7))) q8 q9
  rw [hn] at kk
  exact kk
def zo_bast : zNop := fun _ _ _ _ _ k l st h => match st with
  | .int v :: .int j :: .ref i :: st => match h[i]? with
    | some (.inl (1, (n, .inl f))) => if z_in j n = true then zn (k + 1) l st (h.set i (.inl (1, (n, .inl (upd f j.toNatClampNeg (vp_nar .byte v)))))) else none
    | _ => none
  | _ => none
def zk_bast : zCk := fun _ _ _ _ pc ins len _ nx k => match ins with
  | .bastore => decide (len = 1) && decide (nx (k + 1) = pc + 1)
  | _ => false
theorem zs_bast : z_Sn zo_bast zk_bast := by
  intro p l e R s m args below meth c Z D tc adK adV sb sx M nx ad0 n0 C S d Q a b ci k ins len pl hF hK hA hR hd hck lo st h k' lo' st' h' x y hop kc ks hW
  unfold zo_bast at hop
  split at hop
  case h_2 => cases hop
  next v j i st2 =>
  split at hop
  case h_2 => cases hop
  next n f he =>
  by_cases hj : z_in j n = true
  case neg => rw [if_neg hj] at hop; cases hop
  rw [if_pos hj] at hop
  obtain ⟨rfl, rfl, rfl, rfl, rfl, rfl⟩ := zn_inj hop
  obtain ⟨hx, hb, hml, hr, hown, hts, -⟩ := hF
  intro ad H locs ls cells slots q1 q2 q3 q4 q5 q6 q7 q8 q9
  unfold zk_bast at hck
  split at hck
  case h_2 => cases hck
  simp only [Bool.and_eq_true, decide_eq_true_eq] at hck
  obtain ⟨rfl, hn⟩ := hck
  refine va_bast hx hb hK.2.1 q1.1 q1.2.1 q4 i 1 (z_ws_get he) rfl (z_in_ok hj) hd fun H1 locs1 g1 g2 g3 => ?_
  have kk := hW ad H1 locs1 ls cells slots (q1.set (e := .inl (1, (n, .inl (upd f j.toNatClampNeg (vp_nar .byte v))))) g1 g2 trivial) q2 (by rw [List.length_set]; exact q3) g3 q5 (by rw [List.length_set]; exact q6) (by rw [List.length_set]; exact z_okT (z_okT (z_okT q7))) q8 q9
  rw [hn] at kk
  exact kk
def zo_last : zNop := fun _ _ _ _ _ k l st h => match st with
  | .long v :: .int j :: .ref i :: st => match h[i]? with
    | some (.inl (2, (n, .inr (.inl f)))) => if z_in j n = true then zn (k + 1) l st (h.set i (.inl (2, (n, .inr (.inl (vp_updL f j.toNatClampNeg v)))))) else none
    | _ => none
  | _ => none
def zk_last : zCk := fun _ _ _ _ pc ins len _ nx k => match ins with
  | .lastore => decide (len = 1) && decide (nx (k + 1) = pc + 1)
  | _ => false
theorem zs_last : z_Sn zo_last zk_last := by
  intro p l e R s m args below meth c Z D tc adK adV sb sx M nx ad0 n0 C S d Q a b ci k ins len pl hF hK hA hR hd hck lo st h k' lo' st' h' x y hop kc ks hW
  unfold zo_last at hop
  split at hop
  case h_2 => cases hop
  next v j i st2 =>
  split at hop
  case h_2 => cases hop
  next n f he =>
  by_cases hj : z_in j n = true
  case neg => rw [if_neg hj] at hop; cases hop
  rw [if_pos hj] at hop
  obtain ⟨rfl, rfl, rfl, rfl, rfl, rfl⟩ := zn_inj hop
  obtain ⟨hx, hb, hml, hr, hown, hts, -⟩ := hF
  intro ad H locs ls cells slots q1 q2 q3 q4 q5 q6 q7 q8 q9
  unfold zk_last at hck
  split at hck
  case h_2 => cases hck
  simp only [Bool.and_eq_true, decide_eq_true_eq] at hck
  obtain ⟨rfl, hn⟩ := hck
  refine va_last hx hb hK.2.1 q1.1 q1.2.1 q4 i 2 (z_ws_get he) rfl (z_in_ok hj) hd fun H1 locs1 g1 g2 g3 => ?_
  have kk := hW ad H1 locs1 ls cells slots (q1.set (e := .inl (2, (n, .inr (.inl (vp_updL f j.toNatClampNeg v))))) g1 g2 trivial) q2 (by rw [List.length_set]; exact q3) g3 q5 (by rw [List.length_set]; exact q6) (by rw [List.length_set]; exact z_okT (z_okT (z_okT q7))) q8 q9
  rw [hn] at kk
  exact kk
def zo_aast : zNop := fun _ _ _ _ _ k l st h => match st with
  | .ref v :: .int j :: .ref i :: st => match h[i]?, h[v]? with
    | some (.inl (3, (n, .inr (.inr (.inr (.inr f)))))), some (.inr (1, _)) => if z_in j n = true then zn (k + 1) l st (h.set i (.inl (3, (n, .inr (.inr (.inr (.inr (va_up f j.toNatClampNeg (some v))))))))) else none
    | _, _ => none
  | _ => none
def zk_aast : zCk := fun _ _ _ _ pc ins len _ nx k => match ins with
  | .aastore => decide (len = 1) && decide (nx (k + 1) = pc + 1)
  | _ => false
theorem z_trA_up (ad : Nat → Nat) (f : Nat → Option Nat) (j v : Nat) : (fun q => (va_up f j (some v) q).map ad) = va_up (fun q => (f q).map ad) j (some (ad v)) := by
  funext q
  unfold va_up
  by_cases h : q = j
  · rw [if_pos h, if_pos h]; rfl
  · rw [if_neg h, if_neg h]
theorem zs_aast : z_Sn zo_aast zk_aast := by
  intro p l e R s m args below meth c Z D tc adK adV sb sx M nx ad0 n0 C S d Q a b ci k ins len pl hF hK hA hR hd hck lo st h k' lo' st' h' x y hop kc ks hW
  unfold zo_aast at hop
  split at hop
  case h_2 => cases hop
  next v j i st2 =>
  split at hop
  case h_2 => cases hop
  next n f fs he hv =>
  by_cases hj : z_in j n = true
  case neg => rw [if_neg hj] at hop; cases hop
  rw [if_pos hj] at hop
  obtain ⟨rfl, rfl, rfl, rfl, rfl, rfl⟩ := zn_inj hop
  obtain ⟨hx, hb, hml, hr, hown, hts, -⟩ := hF
  intro ad H locs ls cells slots q1 q2 q3 q4 q5 q6 q7 q8 q9
  unfold zk_aast at hck
  split at hck
  case h_2 => cases hck
  simp only [Bool.and_eq_true, decide_eq_true_eq] at hck
  obtain ⟨rfl, hn⟩ := hck
  refine va_astq hx hb hK.2.1 q1.1 q1.2.1 q4 i 3 v 1 (r := (RX2, TX2, 18)) (z_ws_get he) rfl (z_ws_get hv) rfl (z_in_ok hj) hd fun H1 locs1 g1 g2 g3 => ?_
  have okE : z_okE h.length (.inl (3, (n, .inr (.inr (.inr (.inr (va_up f j.toNatClampNeg (some v)))))))) := by
    have h0 : ∀ j i, f j = some i → i < h.length := q1.2.2.1 _ (List.mem_of_getElem? he)
    intro q i9 hq
    unfold va_up at hq
    by_cases hqj : q = j.toNatClampNeg
    · rw [if_pos hqj] at hq
      cases hq
      exact (List.getElem?_eq_some_iff.mp hv).1
    · rw [if_neg hqj] at hq
      exact h0 q i9 hq
  rw [← z_trA_up] at g1 g2
  have kk := hW ad H1 locs1 ls cells slots (q1.set (e := .inl (3, (n, .inr (.inr (.inr (.inr (va_up f j.toNatClampNeg (some v)))))))) g1 g2 okE) q2 (by rw [List.length_set]; exact q3) g3 q5 (by rw [List.length_set]; exact q6) (by rw [List.length_set]; exact z_okT (z_okT (z_okT q7))) q8 q9
  rw [hn] at kk
  exact kk
def zo_alen : zNop := fun _ _ _ _ _ k l st h => match st with
  | .ref i :: st => match h[i]? with
    | some (.inl (t, (n, _))) => if t < 4 then zn (k + 1) l (.int (Int32.ofNat n) :: st) h else none
    | _ => none
  | _ => none
def zk_alen : zCk := fun _ _ _ _ pc ins len _ nx k => match ins with
  | .arraylength => decide (len = 1) && decide (nx (k + 1) = pc + 1)
  | _ => false
theorem z_trA_len (ad : Nat → Nat) (a : vp_A) : (z_trA ad a).1 = a.1 := by
  obtain ⟨n, f | f | f | f | f⟩ := a <;> rfl
theorem z_tys_at (tc : Nat → ClassId) {t : Nat} (h : t < 4) : ∃ ty, (z_tys tc)[t]? = some (tc t, ty) := by
  match t, h with
  | 0, _ => exact ⟨_, rfl⟩
  | 1, _ => exact ⟨_, rfl⟩
  | 2, _ => exact ⟨_, rfl⟩
  | 3, _ => exact ⟨_, rfl⟩
theorem zs_alen : z_Sn zo_alen zk_alen := by
  intro p l e R s m args below meth c Z D tc adK adV sb sx M nx ad0 n0 C S d Q a b ci k ins len pl hF hK hA hR hd hck lo st h k' lo' st' h' x y hop kc ks hW
  unfold zo_alen at hop
  split at hop
  case h_2 => cases hop
  next i st2 =>
  split at hop
  case h_2 => cases hop
  next t n f he =>
  by_cases ht : t < 4
  case neg => rw [if_neg ht] at hop; cases hop
  rw [if_pos ht] at hop
  obtain ⟨rfl, rfl, rfl, rfl, rfl, rfl⟩ := zn_inj hop
  obtain ⟨hx, hb, hml, hr, hown, hts, -⟩ := hF
  intro ad H locs ls cells slots q1 q2 q3 q4 q5 q6 q7 q8 q9
  have kk := hW ad H locs ls cells slots q1 q2 q3 q4 q5 q6 (z_okC (z_okV_int _ _) (z_okT q7)) q8 q9
  unfold zk_alen at hck
  split at hck
  case h_2 => cases hck
  simp only [Bool.and_eq_true, decide_eq_true_eq] at hck
  obtain ⟨rfl, hn⟩ := hck
  rw [hn] at kk
  obtain ⟨ty, hty⟩ := z_tys_at tc ht
  exact va_alen hx hb hK.2.1 q1.1 i t (z_ws_get he) hty (by rw [z_trA_len]) hd kk
/-! the script -/
def zo_sald : zNop := fun sx _ _ _ _ k l st h => match st with
  | .int j :: .ref i :: st => if i = zS ∧ z_in j sx.1 = true then zn (k + 1) l (.int (sx.2 j.toNatClampNeg) :: st) h else none
  | _ => none
def zk_sald : zCk := fun _ _ _ _ pc ins len _ nx k => match ins with
  | .iaload => decide (len = 1) && decide (nx (k + 1) = pc + 1)
  | _ => false
theorem zs_sald : z_Sn zo_sald zk_sald := by
  intro p l e R s m args below meth c Z D tc adK adV sb sx M nx ad0 n0 C S d Q a b ci k ins len pl hF hK hA hR hd hck lo st h k' lo' st' h' x y hop kc ks hW
  unfold zo_sald at hop
  split at hop
  case h_2 => cases hop
  next j i st2 =>
  by_cases hc : i = zS ∧ z_in j sx.1 = true
  case neg => rw [if_neg hc] at hop; cases hop
  rw [if_pos hc] at hop
  obtain ⟨rfl, hj⟩ := hc
  obtain ⟨rfl, rfl, rfl, rfl, rfl, rfl⟩ := zn_inj hop
  obtain ⟨hx, hb, hml, hr, hown, hts, -⟩ := hF
  intro ad H locs ls cells slots q1 q2 q3 q4 q5 q6 q7 q8 q9
  have kk := hW ad H locs ls cells slots q1 q2 q3 q4 q5 q6 (z_okC (z_okV_int _ _) (z_okT (z_okT q7))) q8 q9
  unfold zk_sald at hck
  split at hck
  case h_2 => cases hck
  simp only [Bool.and_eq_true, decide_eq_true_eq] at hck
  obtain ⟨rfl, hn⟩ := hck
  rw [hn] at kk
  obtain ⟨hZ, -, -, -, -, -, -, hX, hbZ, -⟩ := hK
  have e1 : ad zS = sb := by rw [q2 zS (Or.inr (by decide)), hA.2]
  show W p l e R s m args below meth c H locs cells slots Q (F0 m (nx k) ls (.int j :: .ref (ad zS) :: _))
  rw [e1]
  exact va_sld hx hb hX (by omega) (by show ¬ Z ≤ sb; omega) q4 (z_in_ok hj) hd kk
def zo_slen : zNop := fun sx _ _ _ _ k l st h => match st with
  | .ref i :: st => if i = zS then zn (k + 1) l (.int (Int32.ofNat sx.1) :: st) h else none
  | _ => none
def zk_slen : zCk := fun _ _ _ _ pc ins len _ nx k => match ins with
  | .arraylength => decide (len = 1) && decide (nx (k + 1) = pc + 1)
  | _ => false
theorem zs_slen : z_Sn zo_slen zk_slen := by
  intro p l e R s m args below meth c Z D tc adK adV sb sx M nx ad0 n0 C S d Q a b ci k ins len pl hF hK hA hR hd hck lo st h k' lo' st' h' x y hop kc ks hW
  unfold zo_slen at hop
  split at hop
  case h_2 => cases hop
  next i st2 =>
  by_cases hc : i = zS
  case neg => rw [if_neg hc] at hop; cases hop
  rw [if_pos hc] at hop
  subst hc
  obtain ⟨rfl, rfl, rfl, rfl, rfl, rfl⟩ := zn_inj hop
  obtain ⟨hx, hb, hml, hr, hown, hts, -⟩ := hF
  intro ad H locs ls cells slots q1 q2 q3 q4 q5 q6 q7 q8 q9
  have kk := hW ad H locs ls cells slots q1 q2 q3 q4 q5 q6 (z_okC (z_okV_int _ _) (z_okT q7)) q8 q9
  unfold zk_slen at hck
  split at hck
  case h_2 => cases hck
  simp only [Bool.and_eq_true, decide_eq_true_eq] at hck
  obtain ⟨rfl, hn⟩ := hck
  rw [hn] at kk
  obtain ⟨hZ, -, -, -, -, -, -, hX, hbZ, -⟩ := hK
  have e1 : ad zS = sb := by rw [q2 zS (Or.inr (by decide)), hA.2]
  show W p l e R s m args below meth c H locs cells slots Q (F0 m (nx k) ls (.ref (ad zS) :: _))
  rw [e1]
  exact va_slen hx hb hX (by omega) (by show ¬ Z ≤ sb; omega) q4 hd kk
/-! new cells -/
def z_new (t : Nat) (n : Nat) : zE := match t with
  | 0 => .inl (0, (n, .inl (fun _ => 0)))
  | 1 => .inl (1, (n, .inl (fun _ => 0)))
  | _ => .inl (2, (n, .inr (.inl (fun _ => 0))))
def zo_newa : zNop := fun _ _ a _ _ k l st h => match st with
  | .int n :: st => if ¬ n < 0 ∧ n.toNatClampNeg ≤ 65536 ∧ h.length < zB ∧ a < 3 then some (k + 1, l, .ref h.length :: st, h ++ [z_new a n.toNatClampNeg], 1, n.toNatClampNeg) else none
  | _ => none
def zk_newa : zCk := fun _ a _ _ pc ins len pl nx k => match ins with
  | .newarray .int => decide (a = 0) && z_w (.arrayClass .int) (pl.getD 0 0) && decide (len = 2) && decide (nx (k + 1) = pc + 2)
  | .newarray .byte => decide (a = 1) && z_w (.arrayClass .byte) (pl.getD 0 0) && decide (len = 2) && decide (nx (k + 1) = pc + 2)
  | .newarray .long => decide (a = 2) && z_w (.arrayClass .long) (pl.getD 0 0) && decide (len = 2) && decide (nx (k + 1) = pc + 2)
  | _ => false
/-- behind a new cell: the abstract machine's state with one cell more -/
theorem z_W_new {p : Program} {l : Launch} {e : Env} {R : Room} {s : State} {m : MethodId} {args : Array Value} {below : List Frame} {meth : Method} {c : Code} {Z : Nat} {D : va_G} {tc : Nat → ClassId} {M : zMi} {nx : Nat → Nat} {ad0 : Nat → Nat} {n0 C S : Nat} {Q : State → Prop} {k : Nat} {lo : zL} {st : List Value} {h : zH} {x y kc ks : Nat} {E : zE}
    (hW : z_W p l e R s m args below meth c Z D tc M nx ad0 n0 C S Q k lo (.ref h.length :: st) (h ++ [E]) kc ks) {ad : Nat → Nat} {H H1 : Heap} {locs : List Loc} {ls : Array Slot} {cells slots q : Nat}
    (q1 : z_R Z D tc ad h H) (q2 : z_ag n0 ad0 ad) (q3 : n0 ≤ h.length) (q5 : lv_has ls M.2.2.2.1 (z_tl ad lo)) (q6 : ∀ q ∈ lo, z_okV h.length q.2) (q7 : ∀ v ∈ st, z_okV h.length v) (hn : h.length < zB) (hx : ∀ a b : Nat → Nat, z_trE a tc E = z_trE b tc E) (he : z_okE h.length E)
    (g1 : va_P D vwCl (z_ws ad tc h ++ [(q, z_trE ad tc E)]) H1) (g2 : va_D (fun q => Z ≤ q) (z_ws ad tc h ++ [(q, z_trE ad tc E)])) (g3 : va_S (fun q => Z ≤ q) s.heap H1 locs) (q8 : cells + x + kc = C) (q9 : slots + y + ks = S) :
    W p l e R s m args below meth c H1 locs (cells + x) (slots + y) Q (F0 m (nx k) ls (.ref q :: st.map (z_tr ad))) := by
  have hag : z_ag h.length ad (z_up ad h.length q) := z_up.ag hn
  have hlen : h.length ≤ (h ++ [E]).length := by rw [List.length_append]; omega
  have kk := hW (z_up ad h.length q) H1 locs ls (cells + x) (slots + y) (q1.push hn hx he g1 g2) (q2.trans hag q3) (by rw [List.length_append]; omega) g3 (by rw [z_tl_ag hag q6]; exact q5) (fun q hq => (q6 q hq).mono hlen) (z_okC (fun i hi => by cases hi; exact Or.inl (by simp)) (fun v hv => (q7 v hv).mono hlen)) q8 q9
  rw [List.map_cons, z_tr_ref, z_st_ag hag q7] at kk
  have e1 : z_up ad h.length q h.length = q := if_pos rfl
  rw [e1] at kk
  exact kk
theorem z_RA_one {U : State} {a b : ClassId} {ty : FieldType} (h1 : va_RA U a ty) (h2 : va_RA U b ty) : a = b := by
  cases ty with
  | object C =>
    obtain ⟨_, _, _, _, _, e1⟩ := h1
    obtain ⟨_, _, _, _, _, e2⟩ := h2
    exact Option.some.inj (e1.symm.trans e2)
  | _ => exact Option.some.inj (Eq.trans (Eq.symm h1) h2)
theorem zs_newa : z_Sn zo_newa zk_newa := by
  intro p l e R s m args below meth c Z D tc adK adV sb sx M nx ad0 n0 C S d Q a b ci k ins len pl hF hK hA hR hd hck lo st h k' lo' st' h' x y hop kc ks hW
  unfold zo_newa at hop
  split at hop
  case h_2 => cases hop
  next n st2 =>
  by_cases hc : ¬ n < 0 ∧ n.toNatClampNeg ≤ 65536 ∧ h.length < zB ∧ a < 3
  case neg => rw [if_neg hc] at hop; cases hop
  rw [if_pos hc] at hop
  obtain ⟨hn0, hn1, hlen, -⟩ := hc
  simp only [Option.some.injEq, Prod.mk.injEq] at hop
  obtain ⟨rfl, rfl, rfl, rfl, rfl, rfl⟩ := hop
  obtain ⟨hx, hb, hml, hr, hown, hts, -⟩ := hF
  intro ad H locs ls cells slots q1 q2 q3 q4 q5 q6 q7 q8 q9
  unfold zk_newa at hck
  split at hck
  case h_4 => cases hck
  · simp only [Bool.and_eq_true, decide_eq_true_eq] at hck
    obtain ⟨⟨⟨rfl, h1⟩, rfl⟩, hn⟩ := hck
    refine va_newa (atype := .int) (ty := .int) (a0 := (n.toNatClampNeg, .inl (fun _ => 0))) hx hb (hts _ (z_w_in h1)) rfl hK.2.1 q1.1 q1.2.1 q4 (fun q hq => Nat.le_trans hK.1 hq) (fun _ => rfl) hn0 rfl (by show n.toNatClampNeg * 4 ≤ 536870912; omega) (by have := hR.2.2.1; omega) (by have := hR.2.2.2; omega) hd fun q cA H1 g0 g1 g2 g3 => ?_
    have hcA := z_RA_one (hK.2.1.2 0 _ rfl).2 (g0.2 4 _ rfl).2
    subst hcA
    have kk := z_W_new (x := 1) (y := n.toNatClampNeg) (q := q) (cells := cells) (slots := slots) hW q1 q2 q3 q5 q6 (z_okT q7) hlen (fun _ _ => rfl) trivial g1 g2 g3 (by omega) (by omega)
    rw [hn] at kk
    exact kk
  · simp only [Bool.and_eq_true, decide_eq_true_eq] at hck
    obtain ⟨⟨⟨rfl, h1⟩, rfl⟩, hn⟩ := hck
    refine va_newa (atype := .byte) (ty := .byte) (a0 := (n.toNatClampNeg, .inl (fun _ => 0))) hx hb (hts _ (z_w_in h1)) rfl hK.2.1 q1.1 q1.2.1 q4 (fun q hq => Nat.le_trans hK.1 hq) (fun _ => rfl) hn0 rfl (by show n.toNatClampNeg * 1 ≤ 536870912; omega) (by have := hR.2.2.1; omega) (by have := hR.2.2.2; omega) hd fun q cA H1 g0 g1 g2 g3 => ?_
    have hcA := z_RA_one (hK.2.1.2 1 _ rfl).2 (g0.2 4 _ rfl).2
    subst hcA
    have kk := z_W_new (x := 1) (y := n.toNatClampNeg) (q := q) (cells := cells) (slots := slots) hW q1 q2 q3 q5 q6 (z_okT q7) hlen (fun _ _ => rfl) trivial g1 g2 g3 (by omega) (by omega)
    rw [hn] at kk
    exact kk
  · simp only [Bool.and_eq_true, decide_eq_true_eq] at hck
    obtain ⟨⟨⟨rfl, h1⟩, rfl⟩, hn⟩ := hck
    refine va_newa (atype := .long) (ty := .long) (a0 := (n.toNatClampNeg, .inr (.inl (fun _ => 0)))) hx hb (hts _ (z_w_in h1)) rfl hK.2.1 q1.1 q1.2.1 q4 (fun q hq => Nat.le_trans hK.1 hq) (fun _ => rfl) hn0 rfl (by show n.toNatClampNeg * 8 ≤ 536870912; omega) (by have := hR.2.2.1; omega) (by have := hR.2.2.2; omega) hd fun q cA H1 g0 g1 g2 g3 => ?_
    have hcA := z_RA_one (hK.2.1.2 2 _ rfl).2 (g0.2 4 _ rfl).2
    subst hcA
    have kk := z_W_new (x := 1) (y := n.toNatClampNeg) (q := q) (cells := cells) (slots := slots) hW q1 q2 q3 q5 q6 (z_okT q7) hlen (fun _ _ => rfl) trivial g1 g2 g3 (by omega) (by omega)
    rw [hn] at kk
    exact kk
def zo_anew : zNop := fun _ _ _ _ _ k l st h => match st with
  | .int n :: st => if ¬ n < 0 ∧ n.toNatClampNeg ≤ 65536 ∧ h.length < zB then some (k + 1, l, .ref h.length :: st, h ++ [.inl (3, (n.toNatClampNeg, .inr (.inr (.inr (.inr (fun _ => none))))))], 1, n.toNatClampNeg) else none
  | _ => none
def zk_anew : zCk := fun M _ _ _ pc ins len pl nx k => match ins with
  | .anewarray idx => z_w (.classLink M.1 idx RX2) (pl.getD 0 0) && decide (len = 3) && decide (nx (k + 1) = pc + 3)
  | _ => false
theorem zs_anew : z_Sn zo_anew zk_anew := by
  intro p l e R s m args below meth c Z D tc adK adV sb sx M nx ad0 n0 C S d Q a b ci k ins len pl hF hK hA hR hd hck lo st h k' lo' st' h' x y hop kc ks hW
  unfold zo_anew at hop
  split at hop
  case h_2 => cases hop
  next n st2 =>
  by_cases hc : ¬ n < 0 ∧ n.toNatClampNeg ≤ 65536 ∧ h.length < zB
  case neg => rw [if_neg hc] at hop; cases hop
  rw [if_pos hc] at hop
  obtain ⟨hn0, hn1, hlen⟩ := hc
  simp only [Option.some.injEq, Prod.mk.injEq] at hop
  obtain ⟨rfl, rfl, rfl, rfl, rfl, rfl⟩ := hop
  obtain ⟨hx, hb, hml, hr, hown, hts, -⟩ := hF
  intro ad H locs ls cells slots q1 q2 q3 q4 q5 q6 q7 q8 q9
  unfold zk_anew at hck
  split at hck
  case h_2 => cases hck
  next idx =>
  simp only [Bool.and_eq_true, decide_eq_true_eq] at hck
  obtain ⟨⟨h1, rfl⟩, hn⟩ := hck
  refine va_newq hx hb hown (hts _ (z_w_in h1)) hK.2.2.2.2.2.2.1 hK.2.1 q1.1 q1.2.1 q4 (fun q hq => Nat.le_trans hK.1 hq) hn0 rfl (by omega) (by have := hR.2.2.1; omega) (by have := hR.2.2.2; omega) hd fun q cA H1 g0 g1 g2 g3 => ?_
  have hcA := z_RA_one (hK.2.1.2 3 _ rfl).2 (g0.2 4 _ rfl).2
  subst hcA
  have kk := z_W_new (x := 1) (y := n.toNatClampNeg) (q := q) (cells := cells) (slots := slots) hW q1 q2 q3 q5 q6 (z_okT q7) hlen (fun _ _ => rfl) (fun _ _ h9 => by cases h9) g1 g2 g3 (by omega) (by omega)
  rw [hn] at kk
  exact kk
theorem z_df_tr (ad : Nat → Nat) : ∀ ci, (z_df.getD ci []).map (z_tr ad) = z_df.getD ci [] := by
  intro ci
  match ci with
  | 0 | 1 | 2 | 3 | 4 | 5 | 6 | 7 | 8 | 9 => rfl
  | n + 10 => simp [z_df]
theorem z_df_ok (n : Nat) : ∀ ci, ∀ v ∈ z_df.getD ci [], z_okV n v := by
  have h : z_df.all (fun l => l.all (fun v => match v with | .ref _ => false | _ => true)) = true := by decide
  intro ci v hv
  intro i hi
  subst hi
  cases hc : z_df[ci]? with
  | none => simp [List.getD, hc] at hv
  | some l =>
    rw [List.getD, hc] at hv
    have h1 := List.all_eq_true.mp h l (List.mem_of_getElem? hc)
    have h2 := List.all_eq_true.mp h1 _ hv
    cases h2
def zo_new : zNop := fun _ _ a _ _ k l st h => if h.length < zB then (match vwCl[a]? with
  | some q => some (k + 1, l, .ref h.length :: st, h ++ [.inr (a, z_df.getD a [])], 1, q.2.2)
  | none => none) else none
def zk_new : zCk := fun M a _ _ pc ins len pl nx k => match ins with
  | .new idx => decide (len = 3) && decide (nx (k + 1) = pc + 3) && (match vwCl[a]? with
    | some q => z_w (.classLink M.1 idx q.1) (pl.getD 0 0) && z_w (.instantiable q.1 q.2.2) (pl.getD 1 0) && z_w (.initialized q.1) (pl.getD 2 0)
    | none => false)
  | _ => false
theorem zs_new : z_Sn zo_new zk_new := by
  intro p l e R s m args below meth c Z D tc adK adV sb sx M nx ad0 n0 C S d Q a b ci k ins len pl hF hK hA hR hd hck lo st h k' lo' st' h' x y hop kc ks hW
  unfold zo_new at hop
  by_cases hlen : h.length < zB
  case neg => rw [if_neg hlen] at hop; cases hop
  rw [if_pos hlen] at hop
  split at hop
  case h_2 => cases hop
  next q hq =>
  simp only [Option.some.injEq, Prod.mk.injEq] at hop
  obtain ⟨rfl, rfl, rfl, rfl, rfl, rfl⟩ := hop
  obtain ⟨hx, hb, hml, hr, hown, hts, -⟩ := hF
  intro ad H locs ls cells slots q1 q2 q3 q4 q5 q6 q7 q8 q9
  unfold zk_new at hck
  split at hck
  case h_2 => cases hck
  next idx =>
  rw [hq] at hck
  simp only [Bool.and_eq_true, decide_eq_true_eq] at hck
  obtain ⟨⟨rfl, hn⟩, ⟨⟨h1, h2⟩, h3⟩⟩ := hck
  obtain ⟨hin, ty, hty, -, hdf⟩ := z_cls a q hq
  refine va_new (C := q.1) (T := q.2.1) (N := q.2.2) (fs := (z_df.getD a []).map (z_tr ad)) hx hb hts hin ty hty hown (hts _ (z_w_in h1)) (hts _ (z_w_in h2)) (hts _ (z_w_in h3)) hK.2.1 q1.1 q1.2.1 q4 (fun q hq => Nat.le_trans hK.1 hq) hq (by rw [z_df_tr]; exact hdf) (by have := hR.2.2.1; omega) (by have := hR.2.2.2; omega) hd fun qa H1 g1 g2 g3 => ?_
  have kk := z_W_new (x := 1) (y := q.2.2) (q := qa) (cells := cells) (slots := slots) hW q1 q2 q3 q5 q6 q7 hlen (fun x y => by show Sum.inr (a, _) = Sum.inr (a, _); rw [z_df_tr, z_df_tr]) (z_df_ok _ a) g1 g2 g3 (by omega) (by omega)
  rw [hn] at kk
  exact kk
end
section
theorem dJ0_length_8abf5_0 : decode cJ0_length_8abf5 0 = .ok (.aload_n 0, 1) := by decide +kernel
theorem dJ0_length_8abf5_1 : decode cJ0_length_8abf5 1 = .ok (.getfield 9, 3) := by decide +kernel
theorem dJ0_length_8abf5_4 : decode cJ0_length_8abf5 4 = .ok (.arraylength, 1) := by decide +kernel
theorem dJ0_length_8abf5_5 : decode cJ0_length_8abf5 5 = .ok (.aload_n 0, 1) := by decide +kernel
theorem dJ0_length_8abf5_6 : decode cJ0_length_8abf5 6 = .ok (.invokevirtual 335, 3) := by decide +kernel
theorem dJ0_length_8abf5_9 : decode cJ0_length_8abf5 9 = .ok (.ishr, 1) := by decide +kernel
theorem dJ0_length_8abf5_10 : decode cJ0_length_8abf5 10 = .ok (.ireturn, 1) := by decide +kernel
theorem dJ0_charAt_5068e_0 : decode cJ0_charAt_5068e 0 = .ok (.aload_n 0, 1) := by decide +kernel
theorem dJ0_charAt_5068e_1 : decode cJ0_charAt_5068e 1 = .ok (.invokevirtual 492, 3) := by decide +kernel
theorem dJ0_charAt_5068e_4 : decode cJ0_charAt_5068e 4 = .ok (.ifCond .eq 12, 3) := by decide +kernel
theorem dJ0_charAt_5068e_7 : decode cJ0_charAt_5068e 7 = .ok (.aload_n 0, 1) := by decide +kernel
theorem dJ0_charAt_5068e_8 : decode cJ0_charAt_5068e 8 = .ok (.getfield 9, 3) := by decide +kernel
theorem dJ0_charAt_5068e_11 : decode cJ0_charAt_5068e 11 = .ok (.iload_n 1, 1) := by decide +kernel
theorem dJ0_charAt_5068e_12 : decode cJ0_charAt_5068e 12 = .ok (.invokestatic 495, 3) := by decide +kernel
theorem dJ0_charAt_5068e_15 : decode cJ0_charAt_5068e 15 = .ok (.ireturn, 1) := by decide +kernel
theorem dJ0_charAt_5068e_16 : decode cJ0_charAt_5068e 16 = .ok (.aload_n 0, 1) := by decide +kernel
theorem dJ0_charAt_5068e_17 : decode cJ0_charAt_5068e 17 = .ok (.getfield 9, 3) := by decide +kernel
theorem dJ0_charAt_5068e_20 : decode cJ0_charAt_5068e 20 = .ok (.iload_n 1, 1) := by decide +kernel
theorem dJ0_charAt_5068e_21 : decode cJ0_charAt_5068e 21 = .ok (.invokestatic 498, 3) := by decide +kernel
theorem dJ0_charAt_5068e_24 : decode cJ0_charAt_5068e 24 = .ok (.ireturn, 1) := by decide +kernel
theorem dJ0_coder_7d493_0 : decode cJ0_coder_7d493 0 = .ok (.getstatic 38, 3) := by decide +kernel
theorem dJ0_coder_7d493_3 : decode cJ0_coder_7d493 3 = .ok (.ifCond .eq 10, 3) := by decide +kernel
theorem dJ0_coder_7d493_6 : decode cJ0_coder_7d493 6 = .ok (.aload_n 0, 1) := by decide +kernel
theorem dJ0_coder_7d493_7 : decode cJ0_coder_7d493 7 = .ok (.getfield 15, 3) := by decide +kernel
theorem dJ0_coder_7d493_10 : decode cJ0_coder_7d493 10 = .ok (.goto 4, 3) := by decide +kernel
theorem dJ0_coder_7d493_13 : decode cJ0_coder_7d493 13 = .ok (.iconst 1, 1) := by decide +kernel
theorem dJ0_coder_7d493_14 : decode cJ0_coder_7d493 14 = .ok (.ireturn, 1) := by decide +kernel
theorem dJ0_isLatin1_aae02_0 : decode cJ0_isLatin1_aae02 0 = .ok (.getstatic 38, 3) := by decide +kernel
theorem dJ0_isLatin1_aae02_3 : decode cJ0_isLatin1_aae02 3 = .ok (.ifCond .eq 14, 3) := by decide +kernel
theorem dJ0_isLatin1_aae02_6 : decode cJ0_isLatin1_aae02 6 = .ok (.aload_n 0, 1) := by decide +kernel
theorem dJ0_isLatin1_aae02_7 : decode cJ0_isLatin1_aae02 7 = .ok (.getfield 15, 3) := by decide +kernel
theorem dJ0_isLatin1_aae02_10 : decode cJ0_isLatin1_aae02 10 = .ok (.ifCond .ne 7, 3) := by decide +kernel
theorem dJ0_isLatin1_aae02_13 : decode cJ0_isLatin1_aae02 13 = .ok (.iconst 1, 1) := by decide +kernel
theorem dJ0_isLatin1_aae02_14 : decode cJ0_isLatin1_aae02 14 = .ok (.goto 4, 3) := by decide +kernel
theorem dJ0_isLatin1_aae02_17 : decode cJ0_isLatin1_aae02 17 = .ok (.iconst 0, 1) := by decide +kernel
theorem dJ0_isLatin1_aae02_18 : decode cJ0_isLatin1_aae02 18 = .ok (.ireturn, 1) := by decide +kernel
theorem dJ0_checkIndex_df160_0 : decode cJ0_checkIndex_df160 0 = .ok (.iload_n 0, 1) := by decide +kernel
theorem dJ0_checkIndex_df160_1 : decode cJ0_checkIndex_df160 1 = .ok (.iload_n 1, 1) := by decide +kernel
theorem dJ0_checkIndex_df160_2 : decode cJ0_checkIndex_df160 2 = .ok (.getstatic 1053, 3) := by decide +kernel
theorem dJ0_checkIndex_df160_5 : decode cJ0_checkIndex_df160 5 = .ok (.invokestatic 1059, 3) := by decide +kernel
theorem dJ0_checkIndex_df160_8 : decode cJ0_checkIndex_df160 8 = .ok (.pop, 1) := by decide +kernel
theorem dJ0_checkIndex_df160_9 : decode cJ0_checkIndex_df160 9 = .ok (.return_, 1) := by decide +kernel
theorem dJ1_charAt_3b067_0 : decode cJ1_charAt_3b067 0 = .ok (.iload_n 1, 1) := by decide +kernel
theorem dJ1_charAt_3b067_1 : decode cJ1_charAt_3b067 1 = .ok (.aload_n 0, 1) := by decide +kernel
theorem dJ1_charAt_3b067_2 : decode cJ1_charAt_3b067 2 = .ok (.arraylength, 1) := by decide +kernel
theorem dJ1_charAt_3b067_3 : decode cJ1_charAt_3b067 3 = .ok (.invokestatic 9, 3) := by decide +kernel
theorem dJ1_charAt_3b067_6 : decode cJ1_charAt_3b067 6 = .ok (.aload_n 0, 1) := by decide +kernel
theorem dJ1_charAt_3b067_7 : decode cJ1_charAt_3b067 7 = .ok (.iload_n 1, 1) := by decide +kernel
theorem dJ1_charAt_3b067_8 : decode cJ1_charAt_3b067 8 = .ok (.baload, 1) := by decide +kernel
theorem dJ1_charAt_3b067_9 : decode cJ1_charAt_3b067 9 = .ok (.sipush 255, 3) := by decide +kernel
theorem dJ1_charAt_3b067_12 : decode cJ1_charAt_3b067 12 = .ok (.iand, 1) := by decide +kernel
theorem dJ1_charAt_3b067_13 : decode cJ1_charAt_3b067 13 = .ok (.i2c, 1) := by decide +kernel
theorem dJ1_charAt_3b067_14 : decode cJ1_charAt_3b067 14 = .ok (.ireturn, 1) := by decide +kernel
theorem dJ3_checkIndex_8e157_0 : decode cJ3_checkIndex_8e157 0 = .ok (.iload_n 0, 1) := by decide +kernel
theorem dJ3_checkIndex_8e157_1 : decode cJ3_checkIndex_8e157 1 = .ok (.ifCond .lt 8, 3) := by decide +kernel
theorem dJ3_checkIndex_8e157_4 : decode cJ3_checkIndex_8e157 4 = .ok (.iload_n 0, 1) := by decide +kernel
theorem dJ3_checkIndex_8e157_5 : decode cJ3_checkIndex_8e157 5 = .ok (.iload_n 1, 1) := by decide +kernel
theorem dJ3_checkIndex_8e157_6 : decode cJ3_checkIndex_8e157 6 = .ok (.if_icmp .lt 10, 3) := by decide +kernel
theorem dJ3_checkIndex_8e157_9 : decode cJ3_checkIndex_8e157 9 = .ok (.aload_n 2, 1) := by decide +kernel
theorem dJ3_checkIndex_8e157_10 : decode cJ3_checkIndex_8e157 10 = .ok (.iload_n 0, 1) := by decide +kernel
theorem dJ3_checkIndex_8e157_11 : decode cJ3_checkIndex_8e157 11 = .ok (.iload_n 1, 1) := by decide +kernel
theorem dJ3_checkIndex_8e157_12 : decode cJ3_checkIndex_8e157 12 = .ok (.invokestatic 95, 3) := by decide +kernel
theorem dJ3_checkIndex_8e157_15 : decode cJ3_checkIndex_8e157 15 = .ok (.athrow, 1) := by decide +kernel
theorem dJ3_checkIndex_8e157_16 : decode cJ3_checkIndex_8e157 16 = .ok (.iload_n 0, 1) := by decide +kernel
theorem dJ3_checkIndex_8e157_17 : decode cJ3_checkIndex_8e157 17 = .ok (.ireturn, 1) := by decide +kernel
/-! texts: the JDK's own methods, by contract -/
theorem z_Nc_moved {C T : String} {u U : State} (hvm : u.vm.Alike U.vm) (h : va_Nc C T u) : va_Nc C T U := by
  first
    | exact va_Nc.moved hvm h
    | (obtain ⟨c, t, h1, h2, h3⟩ := h
       exact ⟨c, t, by rw [hvm.findClass]; exact h1, by rw [hvm.findClass]; exact h2, by rw [← hvm.assignable]; exact h3⟩)
/-- the context in a state that has the same tables and, below Z, the same cells -/
theorem z_K.at {l : Launch} {Z : Nat} {D : va_G} {tc : Nat → ClassId} {adK adV : Nat → Nat} {sb : Nat} {sx : zX} {s U : State} {H : Heap} {locs : List Loc} (h : z_K l Z D tc adK adV sb sx s) (hS : va_S (fun q => Z ≤ q) s.heap H locs) (hU : U.heap = H) (hW : s.WarmedH U.vm) : z_K l Z D tc adK adV sb sx U := by
  obtain ⟨h1, h2, h3, h4, h5, h6, h7, h8, h9, h10, h11, h12, h13, h14, h15⟩ := h
  subst hU
  have hvm := hW.alike
  refine ⟨Nat.le_trans h1 hS.1, va_K.moved hvm h2, fun k q hq => ⟨vk_R.warm hW (h3 k q hq).1, (vk_S.moved hvm (h3 k q hq).2).kept hS.2.1⟩, (vx_Zq.moved hvm h4).kept hS.2.1, (vx_Zq.moved hvm h5).kept hS.2.1, fun w hw => ?_, va_AO.moved hvm h7, (va_X.moved hvm h8).kept (hS.2.1 sb (by omega) (by show ¬ Z ≤ sb; omega)), h9, h10, (va_Z.moved hvm h11).kept hS.2.1, (va_Zq.moved hvm h12).kept hS.2.1, va_Nw.warmC hW h13, fun a ha b hb hab => z_Nc_moved hvm (h14 a ha b hb hab), fun w hw => ?_⟩
  rotate_left
  · have h15' := h15 w hw
    simp only [z_xw, List.mem_cons, List.not_mem_nil, or_false] at hw
    rcases hw with rfl | rfl | rfl | rfl | rfl | rfl | rfl | rfl <;> first | exact va_Nw.warmC hW h15' | exact va_Nw.warmD hW h15'
  have h6' := h6 w hw
  simp only [z_nest, List.mem_cons, List.not_mem_nil, or_false] at hw
  rcases hw with rfl | rfl | rfl | rfl | rfl <;> exact va_Nw.warmM hW h6'
theorem z_K.call {l : Launch} {Z : Nat} {D : va_G} {tc : Nat → ClassId} {adK adV : Nat → Nat} {sb : Nat} {sx : zX} {U : State} (g : JFrame) (mk : MethodId) (a : Array Value) (h : z_K l Z D tc adK adV sb sx U) : z_K l Z D tc adK adV sb sx (U.calling g mk a) := by
  obtain ⟨h1, h2, h3, h4, h5, h6, h7, h8, h9, h10, h11, h12, h13, h14, h15⟩ := h
  have hvm : U.vm.Alike (U.calling g mk a).vm := Vm.Alike.refl U.vm
  refine ⟨h1, va_K.moved (u := U) (U := U.calling g mk a) hvm h2, fun k q hq => ⟨vk_R.same (u := U) (U := U.calling g mk a) rfl (h3 k q hq).1, vk_S.moved (u := U) (U := U.calling g mk a) hvm (h3 k q hq).2⟩, vx_Zq.moved (u := U) (U := U.calling g mk a) hvm h4, vx_Zq.moved (u := U) (U := U.calling g mk a) hvm h5, fun w hw => ?_, va_AO.moved (u := U) (U := U.calling g mk a) hvm h7, va_X.moved (u := U) (U := U.calling g mk a) hvm h8, h9, h10, va_Z.moved (u := U) (U := U.calling g mk a) hvm h11, va_Zq.moved (u := U) (U := U.calling g mk a) hvm h12, va_Nw.same rfl (u := U) rfl h13, fun a9 ha b hb hab => z_Nc_moved (u := U) (U := U.calling g mk a) hvm (h14 a9 ha b hb hab), fun w hw => ?_⟩
  rotate_left
  · have h15' := h15 w hw
    simp only [z_xw, List.mem_cons, List.not_mem_nil, or_false] at hw
    rcases hw with rfl | rfl | rfl | rfl | rfl | rfl | rfl | rfl <;> exact va_Nw.same rfl (u := U) rfl h15'
  have h6' := h6 w hw
  simp only [z_nest, List.mem_cons, List.not_mem_nil, or_false] at hw
  rcases hw with rfl | rfl | rfl | rfl | rfl <;> exact va_Nw.same rfl (u := U) rfl h6'
def z_P1 (l : Launch) (Z : Nat) (D : va_G) (tc : Nat → ClassId) (adK adV : Nat → Nat) (sb : Nat) (sx : zX) (as : List Value) : Array Value → State → Prop := va_Pc as (fun U => z_K l Z D tc adK adV sb sx U)
def z_Qp (r : Option Value) : Array Value → State → Outcome → State → Prop := fun _ st oc t => oc = .returned r ∧ t.heap = st.heap
def z_rm (d kc ks : Nat) : Room := { frames := d, cells := kc, slots := ks, locals := 60 * d }
theorem z_good {ws : List Cond} (h : ∀ w ∈ ws, w ∈ z_T) : GoodIn z_T ws := fun w hw => ⟨h w hw, good_of_word (List.mem_filter.mp (h w hw)).2⟩
theorem z_P1_blind {l : Launch} {Z : Nat} {D : va_G} {tc : Nat → ClassId} {adK adV : Nat → Nat} {sb : Nat} {sx : zX} {as : List Value} : FrameBlind (z_P1 l Z D tc adK adV sb sx as) := fun a U g mk q => ⟨q.1, q.2.call g mk a⟩
section ZP
variable {p : Program} {l : Launch} {e : Env} {R : Room} {s : State} {m : MethodId} {args : Array Value} {below : List Frame} {meth : Method} {c : Code} {H : Heap} {locs : List Loc} {cells slots : Nat} {Q : State → Prop} {pc : Nat} {ls : Array Slot} {st0 rest : List Value} {a : Array Value}
/-- a call that leaves the heap as it is -/
theorem z_callp {r : Option Value} (hr : va_Run p l e R s m args below meth c H locs cells slots 0 0 (F0 m pc ls st0) rest (z_Qp r a) (fun _ => False)) (kk : W p l e R s m args below meth c H locs cells slots Q (F0 m (pc + 3) ls (r.toList ++ rest))) : W p l e R s m args below meth c H locs cells slots Q (F0 m pc ls st0) := by
  intro T hT X
  obtain ⟨v, st₀, t, T', L, h0, X', hL, e1, e2, ⟨hv, hh⟩, st⟩ := hr T hT X
  cases hv
  have hL0 : L = [] := by
    cases L with
    | nil => rfl
    | cons q L => exact (hL q List.mem_cons_self).elim
  subst hL0
  rw [List.append_nil] at X'
  obtain ⟨t2, a1, b1⟩ := kk T' (by rw [e1, hh, h0]) X'
  exact ⟨t2, st t2 a1, b1⟩
end ZP
set_option maxHeartbeats 4000000 in
set_option maxRecDepth 100000 in
theorem zc_coder (l : Launch) (Z : Nat) (D : va_G) (tc : Nat → ClassId) (adK adV : Nat → Nat) (sb : Nat) (sx : zX) (k : Nat) (q : String × Nat × String × List Int32) (hq : z_strs[k]? = some q) : Met l yJ0_coder_7d493 (.code yJ0_coder_7d493 cJ0_coder_7d493 1 (some .byte) :: z_T) (z_rm 0 0 0) (z_P1 l Z D tc adK adV sb sx [.ref (adK k)]) (z_Qp (some (.int 0))) 0 0 (fun _ => False) := by
  refine Met.ofW (cc := cJ0_coder_7d493) (maxL := 1) (ret := (some .byte)) (by decide) rfl ?_
  intro p e s m args below meth c s₁ B hml hv
  obtain ⟨rfl, hK⟩ := hv
  have hx := B.exec
  have hb := B.bytes
  have hr := B.returns
  have hts0 := atoms_spec B.pre
  have hts : ∀ w ∈ z_T, w.before _ s = true := fun w hw => hts0 w (List.mem_cons_of_mem _ hw)
  have hown := findClass_of_methodNamed B.named
  have hlocks := B.notSynchronized
  have hS : va_S (fun q => Z ≤ q) s.heap s.heap [] := va_S.rf
  have hl := lv_entry ([.ref (adK k)]) (n := 1) (Nat.le_of_ble_eq_true rfl)
  rw [lg_entry_eq]
  generalize (lg_sl ([.ref (adK k)]) ++ List.replicate (1 - (lg_sl ([.ref (adK k)])).length) Slot.unset).toArray = ls at hl ⊢
  have hSg := (hK.2.2.1 k q hq).2.1 0 (by decide)
  have hl : lv_has ls 1 [(0, .ref (adK k))] := hl
  refine va_gets (pc := 0) hx hb hK.2.2.2.2.2.2.2.2.2.2.1 hS hown (hts (.fieldLink "java/lang/String" 38 "java/lang/String" "COMPACT_STRINGS" "Z") (z_w_in (i := 663) (by decide +kernel))) (fun _ h9 => h9) dJ0_coder_7d493_0 ?_
  refine lv_if_eq (tgt := 13) hx hb dJ0_coder_7d493_3 (by decide) (fun h9 => by cases h9) (fun _ => ?_)
  refine lv_aload_n hx hb (k := 0) (i := 0) dJ0_coder_7d493_6 rfl (lv_at hl 0 rfl) ?_
  refine vk_getf hx hb hSg.2.1 hS hown (hts (.fieldLink "java/lang/String" 15 "java/lang/String" "coder" "B") (z_w_in (i := 2106) (by decide +kernel))) (fun _ h9 => h9) dJ0_coder_7d493_7 ?_
  refine lv_goto (tgt := 14) hx hb dJ0_coder_7d493_10 (by decide) ?_
  exact W.zret hx hb hr rfl (fun t ht _ => ⟨rfl, ht⟩) (fun _ h => by cases h) dJ0_coder_7d493_14
set_option maxHeartbeats 4000000 in
set_option maxRecDepth 100000 in
theorem zc_isLatin1 (l : Launch) (Z : Nat) (D : va_G) (tc : Nat → ClassId) (adK adV : Nat → Nat) (sb : Nat) (sx : zX) (k : Nat) (q : String × Nat × String × List Int32) (hq : z_strs[k]? = some q) : Met l yJ0_isLatin1_aae02 (.code yJ0_isLatin1_aae02 cJ0_isLatin1_aae02 1 (some .boolean) :: z_T) (z_rm 0 0 0) (z_P1 l Z D tc adK adV sb sx [.ref (adK k)]) (z_Qp (some (.int 1))) 0 0 (fun _ => False) := by
  refine Met.ofW (cc := cJ0_isLatin1_aae02) (maxL := 1) (ret := (some .boolean)) (by decide) rfl ?_
  intro p e s m args below meth c s₁ B hml hv
  obtain ⟨rfl, hK⟩ := hv
  have hx := B.exec
  have hb := B.bytes
  have hr := B.returns
  have hts0 := atoms_spec B.pre
  have hts : ∀ w ∈ z_T, w.before _ s = true := fun w hw => hts0 w (List.mem_cons_of_mem _ hw)
  have hown := findClass_of_methodNamed B.named
  have hlocks := B.notSynchronized
  have hS : va_S (fun q => Z ≤ q) s.heap s.heap [] := va_S.rf
  have hl := lv_entry ([.ref (adK k)]) (n := 1) (Nat.le_of_ble_eq_true rfl)
  rw [lg_entry_eq]
  generalize (lg_sl ([.ref (adK k)]) ++ List.replicate (1 - (lg_sl ([.ref (adK k)])).length) Slot.unset).toArray = ls at hl ⊢
  have hSg := (hK.2.2.1 k q hq).2.1 0 (by decide)
  have hl : lv_has ls 1 [(0, .ref (adK k))] := hl
  refine va_gets (pc := 0) hx hb hK.2.2.2.2.2.2.2.2.2.2.1 hS hown (hts (.fieldLink "java/lang/String" 38 "java/lang/String" "COMPACT_STRINGS" "Z") (z_w_in (i := 663) (by decide +kernel))) (fun _ h9 => h9) dJ0_isLatin1_aae02_0 ?_
  refine lv_if_eq (tgt := 17) hx hb dJ0_isLatin1_aae02_3 (by decide) (fun h9 => by cases h9) (fun _ => ?_)
  refine lv_aload_n hx hb (k := 0) (i := 0) dJ0_isLatin1_aae02_6 rfl (lv_at hl 0 rfl) ?_
  refine vk_getf hx hb hSg.2.1 hS hown (hts (.fieldLink "java/lang/String" 15 "java/lang/String" "coder" "B") (z_w_in (i := 2106) (by decide +kernel))) (fun _ h9 => h9) dJ0_isLatin1_aae02_7 ?_
  refine lv_if_ne (tgt := 17) hx hb dJ0_isLatin1_aae02_10 (by decide) (fun h9 => absurd rfl h9) (fun _ => ?_)
  refine lv_iconst (v := 1) hx hb (n := 1) dJ0_isLatin1_aae02_13 (by decide) ?_
  refine lv_goto (tgt := 18) hx hb dJ0_isLatin1_aae02_14 (by decide) ?_
  exact W.zret hx hb hr rfl (fun t ht _ => ⟨rfl, ht⟩) (fun _ h => by cases h) dJ0_isLatin1_aae02_18
/-- the words of a static call -/
theorem z_cwS {R : Room} {s : State} {args : Array Value} {own : String} {index maxL mc ms : Nat} {y : MethodName} {bytes : ByteArray} {ret : Option FieldType} {rm : Room} (n : Nat) (ht : ∀ w ∈ z_T, w.before args s = true) (h1 : Cond.methodLink own index y ∈ z_T) (h2 : Cond.static y ∈ z_T) (h3 : Cond.initialized y.cls ∈ z_T) (h4 : Cond.code y bytes maxL ret ∈ z_T) (hrc : rm.cells = mc) (hrs : rm.slots = ms)
    (hd : y.cls ≠ "java/lang/invoke/MethodHandle" ∧ y.cls ≠ "java/lang/invoke/VarHandle" ∧ (parseMethodDescriptor y.desc).map (fun d => d.parameters.length) = some n) (hR : rm.frames + 1 ≤ R.frames ∧ 8 + (maxL + 11) + rm.locals ≤ R.locals) : CallB R s args own index y bytes maxL ret (.code y bytes maxL ret :: z_T) rm mc ms n ∧ (Cond.static y).before args s = true := by
  have hG : GoodIn z_T (.code y bytes maxL ret :: z_T) := z_good (fun w hw => by
    rcases List.mem_cons.mp hw with rfl | h
    · exact h4
    · exact h)
  exact ⟨callB_of n ht hG rfl hrc hrs (ht _ h3) (ht _ h1) hd hR, ht _ h2⟩
set_option maxHeartbeats 4000000 in
set_option maxRecDepth 100000 in
theorem zc_length (l : Launch) (Z : Nat) (D : va_G) (tc : Nat → ClassId) (adK adV : Nat → Nat) (sb : Nat) (sx : zX) (k : Nat) (q : String × Nat × String × List Int32) (hq : z_strs[k]? = some q) (hlen : q.2.2.2.length < 2 ^ 31) : Met l yJ0_length_8abf5 (.code yJ0_length_8abf5 cJ0_length_8abf5 1 (some .int) :: z_T) (z_rm 1 0 0) (z_P1 l Z D tc adK adV sb sx [.ref (adK k)]) (z_Qp (some (.int (Int32.ofNat q.2.2.2.length)))) 0 0 (fun _ => False) := by
  refine Met.ofW (cc := cJ0_length_8abf5) (maxL := 1) (ret := (some .int)) (by decide) rfl ?_
  intro p e s m args below meth c s₁ B hml hv
  obtain ⟨rfl, hK⟩ := hv
  have hx := B.exec
  have hb := B.bytes
  have hr := B.returns
  have hts0 := atoms_spec B.pre
  have hts : ∀ w ∈ z_T, w.before _ s = true := fun w hw => hts0 w (List.mem_cons_of_mem _ hw)
  have hown := findClass_of_methodNamed B.named
  have hlocks := B.notSynchronized
  have hS : va_S (fun q => Z ≤ q) s.heap s.heap [] := va_S.rf
  have hl := lv_entry ([.ref (adK k)]) (n := 1) (Nat.le_of_ble_eq_true rfl)
  rw [lg_entry_eq]
  generalize (lg_sl ([.ref (adK k)]) ++ List.replicate (1 - (lg_sl ([.ref (adK k)])).length) Slot.unset).toArray = ls at hl ⊢
  have hSg := (hK.2.2.1 k q hq).2.1 0 (by decide)
  have hl : lv_has ls 1 [(0, .ref (adK k))] := hl
  refine lv_aload_n (pc := 0) hx hb (k := 0) (i := 0) dJ0_length_8abf5_0 rfl (lv_at hl 0 rfl) ?_
  refine vk_getf hx hb hSg.2.2.1 hS hown (hts (.fieldLink "java/lang/String" 9 "java/lang/String" "value" "[B") (z_w_in (i := 2105) (by decide +kernel))) (fun _ h9 => h9) dJ0_length_8abf5_1 ?_
  refine va_tlen hx hb hSg.2.2.2 hS (v := Int32.ofNat q.2.2.2.length) rfl dJ0_length_8abf5_4 ?_
  refine lv_aload_n hx hb (k := 0) (i := 0) dJ0_length_8abf5_5 rfl (lv_at hl 0 rfl) ?_
  refine z_callp (va_runV (As := []) (rest := [.int (Int32.ofNat q.2.2.2.length)]) ⟨hx, hb, hml, hown, hts⟩ (zc_coder l Z D tc adK adV sb sx k q hq) (cwV 0 hts (z_good (ws := wsV RJ0 335 RJ0 yJ0_coder_7d493 (.code yJ0_coder_7d493 cJ0_coder_7d493 1 (some .byte) :: z_T)) (fun w hw => by
      rcases List.mem_append.mp hw with h | h
      · simp only [List.mem_cons, List.not_mem_nil, or_false] at h
        rcases h with rfl | rfl | rfl | rfl
        · exact (z_w_in (i := 659) (by decide +kernel))
        · exact (z_w_in (i := 660) (by decide +kernel))
        · exact (z_w_in (i := 661) (by decide +kernel))
        · exact (z_w_in (i := 113) (by decide +kernel))
      · rcases List.mem_cons.mp h with rfl | h
        · exact (z_w_in (i := 662) (by decide +kernel))
        · exact h)) rfl rfl rfl (by decide +kernel) ⟨Nat.le_of_ble_eq_true rfl, Nat.le_of_ble_eq_true rfl⟩) ⟨z_P1_blind, vk_recv (hK.2.2.1 k q hq).2 (i := 0) (by decide) hS, fun U hU hW => ⟨rfl, hK.at hS hU hW⟩⟩ rfl rfl hl.1 rfl (lv_room (Nat.le_of_ble_eq_true rfl)) dJ0_length_8abf5_6 ⟨Nat.zero_le _, Nat.zero_le _⟩) ?_
  refine lv_ishr hx hb dJ0_length_8abf5_9 ?_
  have e9 : Int32.ofNat q.2.2.2.length >>> ((0 : Int32) &&& 31) = Int32.ofNat q.2.2.2.length := by
    have h0 : ((0 : Int32) &&& 31) = 0 := by decide
    rw [h0]
    have := pk_shrN hlen 0 0 (by decide)
    simpa [nI] using this
  rw [e9]
  exact W.iret hx hb hr (fun t ht _ => ⟨rfl, ht⟩) (fun _ h => by cases h) dJ0_length_8abf5_10
set_option maxHeartbeats 4000000 in
set_option maxRecDepth 100000 in
theorem zc_pcheck (l : Launch) (Z : Nat) (D : va_G) (tc : Nat → ClassId) (adK adV : Nat → Nat) (sb : Nat) (sx : zX) (i n : Int32) (f : Value) (hf : f.category = 1) (h0 : ¬ i < 0) (h1 : i < n) : Met l yJ3_checkIndex_8e157 (.code yJ3_checkIndex_8e157 cJ3_checkIndex_8e157 3 (some .int) :: z_T) (z_rm 0 0 0) (z_P1 l Z D tc adK adV sb sx [.int i, .int n, f]) (z_Qp (some (.int i))) 0 0 (fun _ => False) := by
  refine Met.ofW (cc := cJ3_checkIndex_8e157) (maxL := 3) (ret := (some .int)) (by decide) rfl ?_
  intro p e s m args below meth c s₁ B hml hv
  obtain ⟨rfl, hK⟩ := hv
  have hx := B.exec
  have hb := B.bytes
  have hr := B.returns
  have hts0 := atoms_spec B.pre
  have hts : ∀ w ∈ z_T, w.before _ s = true := fun w hw => hts0 w (List.mem_cons_of_mem _ hw)
  have hown := findClass_of_methodNamed B.named
  have hlocks := B.notSynchronized
  have hS : va_S (fun q => Z ≤ q) s.heap s.heap [] := va_S.rf
  have hlf : (lg_sl [Value.int i, Value.int n, f]).length = 3 := by cases f <;> first | rfl | cases hf
  have hl := lv_entry ([.int i, .int n, f]) (n := 3) (by omega)
  rw [lg_entry_eq]
  generalize (lg_sl ([.int i, .int n, f]) ++ List.replicate (3 - (lg_sl ([.int i, .int n, f])).length) Slot.unset).toArray = ls at hl ⊢
  have hl := lv_sub hl [0, 1] (l' := [(0, .int i), (1, .int n)]) rfl
  refine lv_iload_n (pc := 0) hx hb (k := 0) (i := 0) dJ3_checkIndex_8e157_0 rfl (lv_at hl 0 rfl) ?_
  refine lv_if_lt (tgt := 9) hx hb dJ3_checkIndex_8e157_1 (by decide) (fun h9 => absurd h9 h0) (fun _ => ?_)
  refine lv_iload_n hx hb (k := 0) (i := 0) dJ3_checkIndex_8e157_4 rfl (lv_at hl 0 rfl) ?_
  refine lv_iload_n hx hb (k := 1) (i := 1) dJ3_checkIndex_8e157_5 rfl (lv_at hl 1 rfl) ?_
  refine lv_icmp_lt (tgt := 16) hx hb dJ3_checkIndex_8e157_6 (by decide) (fun _ => ?_) (fun h9 => absurd h1 h9)
  refine lv_iload_n hx hb (k := 0) (i := 0) dJ3_checkIndex_8e157_16 rfl (lv_at hl 0 rfl) ?_
  exact W.iret hx hb hr (fun t ht _ => ⟨rfl, ht⟩) (fun _ h => by cases h) dJ3_checkIndex_8e157_17
set_option maxHeartbeats 4000000 in
set_option maxRecDepth 100000 in
theorem zc_check (l : Launch) (Z : Nat) (D : va_G) (tc : Nat → ClassId) (adK adV : Nat → Nat) (sb : Nat) (sx : zX) (i n : Int32) (h0 : ¬ i < 0) (h1 : i < n) : Met l yJ0_checkIndex_df160 (.code yJ0_checkIndex_df160 cJ0_checkIndex_df160 2 none :: z_T) (z_rm 1 0 0) (z_P1 l Z D tc adK adV sb sx [.int i, .int n]) (z_Qp none) 0 0 (fun _ => False) := by
  refine Met.ofW (cc := cJ0_checkIndex_df160) (maxL := 2) (ret := none) (by decide) rfl ?_
  intro p e s m args below meth c s₁ B hml hv
  obtain ⟨rfl, hK⟩ := hv
  have hx := B.exec
  have hb := B.bytes
  have hr := B.returns
  have hts0 := atoms_spec B.pre
  have hts : ∀ w ∈ z_T, w.before _ s = true := fun w hw => hts0 w (List.mem_cons_of_mem _ hw)
  have hown := findClass_of_methodNamed B.named
  have hlocks := B.notSynchronized
  have hS : va_S (fun q => Z ≤ q) s.heap s.heap [] := va_S.rf
  have hl := lv_entry ([.int i, .int n]) (n := 2) (Nat.le_of_ble_eq_true rfl)
  rw [lg_entry_eq]
  generalize (lg_sl ([.int i, .int n]) ++ List.replicate (2 - (lg_sl ([.int i, .int n])).length) Slot.unset).toArray = ls at hl ⊢
  have hl : lv_has ls 2 [(0, .int i), (1, .int n)] := hl
  refine lv_iload_n (pc := 0) hx hb (k := 0) (i := 0) dJ0_checkIndex_df160_0 rfl (lv_at hl 0 rfl) ?_
  refine lv_iload_n hx hb (k := 1) (i := 1) dJ0_checkIndex_df160_1 rfl (lv_at hl 1 rfl) ?_
  have key : ∀ f : Value, f.category = 1 → W p l e (headSpec (.code yJ0_checkIndex_df160 cJ0_checkIndex_df160 2 none :: z_T) (z_rm 1 0 0)).room s m #[Value.int i, Value.int n] below meth c s.heap [] 0 0 (MQ below (z_Qp none) #[Value.int i, Value.int n] s 0 0 (fun _ => False)) (F0 m 5 ls [f, .int n, .int i]) := by
    intro f hf
    refine z_callp (va_runS (As := [.int i, .int n, f]) (rest := []) ⟨hx, hb, hml, hown, hts⟩ (zc_pcheck l Z D tc adK adV sb sx i n f hf h0 h1) (z_cwS 3 hts (y := yJ3_checkIndex_8e157) (bytes := cJ3_checkIndex_8e157) (maxL := 3) (ret := (some .int)) (z_w_in (i := 688) (by decide +kernel)) (z_w_in (i := 689) (by decide +kernel)) (z_w_in (i := 115) (by decide +kernel)) (z_w_in (i := 690) (by decide +kernel)) rfl rfl (by decide +kernel) ⟨Nat.le_of_ble_eq_true rfl, Nat.le_of_ble_eq_true rfl⟩) ⟨z_P1_blind, fun U hU hW => ⟨rfl, hK.at hS hU hW⟩⟩ rfl rfl hl.1 rfl (lv_room (Nat.le_of_ble_eq_true rfl)) dJ0_checkIndex_df160_5 ⟨Nat.zero_le _, Nat.zero_le _⟩) ?_
    refine lv_pop hx hb dJ0_checkIndex_df160_8 rfl ?_
    exact W.vret hx hb hr (fun t ht _ => ⟨rfl, ht⟩) (fun _ h => by cases h) dJ0_checkIndex_df160_9
  rcases hK.2.2.2.2.2.2.2.2.2.2.2.1 with hz | ⟨t, hz⟩
  · exact va_gets hx hb hz hS hown (hts (.fieldLink "java/lang/String" 1053 "jdk/internal/util/Preconditions" "SIOOBE_FORMATTER" "Ljava/util/function/BiFunction;") (z_w_in (i := 686) (by decide +kernel))) (fun _ h9 => h9) dJ0_checkIndex_df160_2 (key _ rfl)
  · exact va_gets hx hb hz hS hown (hts (.fieldLink "java/lang/String" 1053 "jdk/internal/util/Preconditions" "SIOOBE_FORMATTER" "Ljava/util/function/BiFunction;") (z_w_in (i := 686) (by decide +kernel))) (fun _ h9 => h9) dJ0_checkIndex_df160_2 (key _ rfl)
theorem z_and255 (x : Int32) : ∃ n : Nat, n < 256 ∧ x &&& 255 = nI n := by
  have h := pk_and x (m := 255) 8 (by decide)
  exact ⟨_, Nat.mod_lt _ (by decide), h⟩
theorem zt_c2 (x : Int32) : ((x &&& 255).toUInt32 % 65536).toInt32 = x &&& 255 := by
  obtain ⟨n, hn, e⟩ := z_and255 x
  rw [e]
  have h := pk_char (nI n)
  rw [h, pk_tn (by omega), Nat.mod_eq_of_lt (by omega)]
theorem z_nar (x : Int32) : narrow .char (.int (x &&& 255)) = .int (x &&& 255) := by
  obtain ⟨n, hn, e⟩ := z_and255 x
  rw [e]
  exact (pk_charN (by omega)).1
set_option maxHeartbeats 4000000 in
set_option maxRecDepth 100000 in
theorem zc_latin (l : Launch) (Z : Nat) (D : va_G) (tc : Nat → ClassId) (adK adV : Nat → Nat) (sb : Nat) (sx : zX) (k : Nat) (q : String × Nat × String × List Int32) (hq : z_strs[k]? = some q) (hlen : q.2.2.2.length < 2 ^ 31) (j : Nat) (hj : j < q.2.2.2.length) : Met l yJ1_charAt_3b067 (.code yJ1_charAt_3b067 cJ1_charAt_3b067 2 (some .char) :: z_T) (z_rm 2 0 0) (z_P1 l Z D tc adK adV sb sx [.ref (adV k), .int (nI j)]) (z_Qp (some (.int ((q.2.2.2.getD j 0) &&& 255)))) 0 0 (fun _ => False) := by
  refine Met.ofW (cc := cJ1_charAt_3b067) (maxL := 2) (ret := (some .char)) (by decide) rfl ?_
  intro p e s m args below meth c s₁ B hml hv
  obtain ⟨rfl, hK⟩ := hv
  have hx := B.exec
  have hb := B.bytes
  have hr := B.returns
  have hts0 := atoms_spec B.pre
  have hts : ∀ w ∈ z_T, w.before _ s = true := fun w hw => hts0 w (List.mem_cons_of_mem _ hw)
  have hown := findClass_of_methodNamed B.named
  have hlocks := B.notSynchronized
  have hS : va_S (fun q => Z ≤ q) s.heap s.heap [] := va_S.rf
  have hl := lv_entry ([.ref (adV k), .int (nI j)]) (n := 2) (Nat.le_of_ble_eq_true rfl)
  rw [lg_entry_eq]
  generalize (lg_sl ([.ref (adV k), .int (nI j)]) ++ List.replicate (2 - (lg_sl ([.ref (adV k), .int (nI j)])).length) Slot.unset).toArray = ls at hl ⊢
  have hSg := (hK.2.2.1 k q hq).2.1 0 (by decide)
  have hl : lv_has ls 2 [(0, .ref (adV k)), (1, .int (nI j))] := hl
  refine lv_iload_n (pc := 0) hx hb (k := 1) (i := 1) dJ1_charAt_3b067_0 rfl (lv_at hl 1 rfl) ?_
  refine lv_aload_n hx hb (k := 0) (i := 0) dJ1_charAt_3b067_1 rfl (lv_at hl 0 rfl) ?_
  refine va_tlen hx hb hSg.2.2.2 hS (v := nI q.2.2.2.length) rfl dJ1_charAt_3b067_2 ?_
  refine z_callp (va_runS (As := [.int (nI j), .int (nI q.2.2.2.length)]) (rest := []) ⟨hx, hb, hml, hown, hts⟩ (zc_check l Z D tc adK adV sb sx (nI j) (nI q.2.2.2.length) (nI_pos (by omega)) (nI_lt hj hlen)) (z_cwS 2 hts (y := yJ0_checkIndex_df160) (bytes := cJ0_checkIndex_df160) (maxL := 2) (ret := none) (z_w_in (i := 683) (by decide +kernel)) (z_w_in (i := 684) (by decide +kernel)) (z_w_in (i := 113) (by decide +kernel)) (z_w_in (i := 685) (by decide +kernel)) rfl rfl (by decide +kernel) ⟨Nat.le_of_ble_eq_true rfl, Nat.le_of_ble_eq_true rfl⟩) ⟨z_P1_blind, fun U hU hW => ⟨rfl, hK.at hS hU hW⟩⟩ rfl rfl hl.1 rfl (lv_room (Nat.le_of_ble_eq_true rfl)) dJ1_charAt_3b067_3 ⟨Nat.zero_le _, Nat.zero_le _⟩) ?_
  refine lv_aload_n hx hb (k := 0) (i := 0) dJ1_charAt_3b067_6 rfl (lv_at hl 0 rfl) ?_
  refine lv_iload_n hx hb (k := 1) (i := 1) dJ1_charAt_3b067_7 rfl (lv_at hl 1 rfl) ?_
  refine va_tb hx hb hSg.2.2.2 hS (i := nI j) (vp_in_nI hj hlen) (v := .int (q.2.2.2.getD j 0)) (by rw [nI_clamp (by omega)]; rfl) dJ1_charAt_3b067_8 ?_
  refine lv_sipush hx hb (n := 255) (v := 255) dJ1_charAt_3b067_9 (by decide) ?_
  refine lv_iand hx hb dJ1_charAt_3b067_12 ?_
  refine lv_i2c hx hb (v := (q.2.2.2.getD j 0) &&& 255) dJ1_charAt_3b067_13 (zt_c2 _) ?_
  exact W.zret hx hb hr (z_nar _) (fun t ht _ => ⟨rfl, ht⟩) (fun _ h => by cases h) dJ1_charAt_3b067_14
set_option maxHeartbeats 4000000 in
set_option maxRecDepth 100000 in
theorem zc_charAt (l : Launch) (Z : Nat) (D : va_G) (tc : Nat → ClassId) (adK adV : Nat → Nat) (sb : Nat) (sx : zX) (k : Nat) (q : String × Nat × String × List Int32) (hq : z_strs[k]? = some q) (hlen : q.2.2.2.length < 2 ^ 31) (j : Nat) (hj : j < q.2.2.2.length) : Met l yJ0_charAt_5068e (.code yJ0_charAt_5068e cJ0_charAt_5068e 2 (some .char) :: z_T) (z_rm 3 0 0) (z_P1 l Z D tc adK adV sb sx [.ref (adK k), .int (nI j)]) (z_Qp (some (.int ((q.2.2.2.getD j 0) &&& 255)))) 0 0 (fun _ => False) := by
  refine Met.ofW (cc := cJ0_charAt_5068e) (maxL := 2) (ret := (some .char)) (by decide) rfl ?_
  intro p e s m args below meth c s₁ B hml hv
  obtain ⟨rfl, hK⟩ := hv
  have hx := B.exec
  have hb := B.bytes
  have hr := B.returns
  have hts0 := atoms_spec B.pre
  have hts : ∀ w ∈ z_T, w.before _ s = true := fun w hw => hts0 w (List.mem_cons_of_mem _ hw)
  have hown := findClass_of_methodNamed B.named
  have hlocks := B.notSynchronized
  have hS : va_S (fun q => Z ≤ q) s.heap s.heap [] := va_S.rf
  have hl := lv_entry ([.ref (adK k), .int (nI j)]) (n := 2) (Nat.le_of_ble_eq_true rfl)
  rw [lg_entry_eq]
  generalize (lg_sl ([.ref (adK k), .int (nI j)]) ++ List.replicate (2 - (lg_sl ([.ref (adK k), .int (nI j)])).length) Slot.unset).toArray = ls at hl ⊢
  have hSg := (hK.2.2.1 k q hq).2.1 0 (by decide)
  have hl : lv_has ls 2 [(0, .ref (adK k)), (1, .int (nI j))] := hl
  refine lv_aload_n (pc := 0) hx hb (k := 0) (i := 0) dJ0_charAt_5068e_0 rfl (lv_at hl 0 rfl) ?_
  refine z_callp (va_runV (As := []) (rest := []) ⟨hx, hb, hml, hown, hts⟩ (zc_isLatin1 l Z D tc adK adV sb sx k q hq) (cwV 0 hts (z_good (ws := wsV RJ0 492 RJ0 yJ0_isLatin1_aae02 (.code yJ0_isLatin1_aae02 cJ0_isLatin1_aae02 1 (some .boolean) :: z_T)) (fun w hw => by
      rcases List.mem_append.mp hw with h | h
      · simp only [List.mem_cons, List.not_mem_nil, or_false] at h
        rcases h with rfl | rfl | rfl | rfl
        · exact (z_w_in (i := 676) (by decide +kernel))
        · exact (z_w_in (i := 677) (by decide +kernel))
        · exact (z_w_in (i := 678) (by decide +kernel))
        · exact (z_w_in (i := 113) (by decide +kernel))
      · rcases List.mem_cons.mp h with rfl | h
        · exact (z_w_in (i := 679) (by decide +kernel))
        · exact h)) rfl rfl rfl (by decide +kernel) ⟨Nat.le_of_ble_eq_true rfl, Nat.le_of_ble_eq_true rfl⟩) ⟨z_P1_blind, vk_recv (hK.2.2.1 k q hq).2 (i := 0) (by decide) hS, fun U hU hW => ⟨rfl, hK.at hS hU hW⟩⟩ rfl rfl hl.1 rfl (lv_room (Nat.le_of_ble_eq_true rfl)) dJ0_charAt_5068e_1 ⟨Nat.zero_le _, Nat.zero_le _⟩) ?_
  refine lv_if_eq (tgt := 16) hx hb dJ0_charAt_5068e_4 (by decide) (fun h9 => by cases h9) (fun _ => ?_)
  refine lv_aload_n hx hb (k := 0) (i := 0) dJ0_charAt_5068e_7 rfl (lv_at hl 0 rfl) ?_
  refine vk_getf hx hb hSg.2.2.1 hS hown (hts (.fieldLink "java/lang/String" 9 "java/lang/String" "value" "[B") (z_w_in (i := 2105) (by decide +kernel))) (fun _ h9 => h9) dJ0_charAt_5068e_8 ?_
  refine lv_iload_n hx hb (k := 1) (i := 1) dJ0_charAt_5068e_11 rfl (lv_at hl 1 rfl) ?_
  refine z_callp (va_runS (As := [.ref (adV k), .int (nI j)]) (rest := []) ⟨hx, hb, hml, hown, hts⟩ (zc_latin l Z D tc adK adV sb sx k q hq hlen j hj) (z_cwS 2 hts (y := yJ1_charAt_3b067) (bytes := cJ1_charAt_3b067) (maxL := 2) (ret := (some .char)) (z_w_in (i := 680) (by decide +kernel)) (z_w_in (i := 681) (by decide +kernel)) (z_w_in (i := 114) (by decide +kernel)) (z_w_in (i := 682) (by decide +kernel)) rfl rfl (by decide +kernel) ⟨Nat.le_of_ble_eq_true rfl, Nat.le_of_ble_eq_true rfl⟩) ⟨z_P1_blind, fun U hU hW => ⟨rfl, hK.at hS hU hW⟩⟩ rfl rfl hl.1 rfl (lv_room (Nat.le_of_ble_eq_true rfl)) dJ0_charAt_5068e_12 ⟨Nat.zero_le _, Nat.zero_le _⟩) ?_
  exact W.zret hx hb hr (z_nar _) (fun t ht _ => ⟨rfl, ht⟩) (fun _ h => by cases h) dJ0_charAt_5068e_15
end
section
/-! texts, constructors of Object, the JDK's small functions -/
def z_cat (st : List Value) : Nat := (st.map fun v => v.category).sum
theorem z_cat_tr (ad : Nat → Nat) (st : List Value) : ((st.map (z_tr ad)).map fun v => v.category).sum = z_cat st := by
  unfold z_cat
  rw [List.map_map]
  congr 1
  exact List.map_congr_left fun v _ => z_tr_cat ad v
theorem z_strs_len : ∀ q ∈ z_strs, q.2.2.2.length < 256 := by decide +kernel
def zo_ldcs : zNop := fun _ _ a _ _ k l st h => if a < z_strs.length then zn (k + 1) l (.ref (zB + a) :: st) h else none
def zk_ldcs : zCk := fun M a _ _ pc ins len _ nx k => match ins with
  | .ldc idx => (match z_strs[a]? with | some q => decide (q.1 = M.1) && decide (q.2.1 = idx) | none => false) && decide (len = 2) && decide (nx (k + 1) = pc + 2)
  | _ => false
theorem zs_ldcs : z_Sn zo_ldcs zk_ldcs := by
  intro p l e R s m args below meth c Z D tc adK adV sb sx M nx ad0 n0 C S d Q a b ci k ins len pl hF hK hA hR hd hck lo st h k' lo' st' h' x y hop kc ks hW
  unfold zo_ldcs at hop
  by_cases hc : a < z_strs.length
  case neg => rw [if_neg hc] at hop; cases hop
  rw [if_pos hc] at hop
  obtain ⟨rfl, rfl, rfl, rfl, rfl, rfl⟩ := zn_inj hop
  obtain ⟨hx, hb, hml, hr, hown, hts, -⟩ := hF
  intro ad H locs ls cells slots q1 q2 q3 q4 q5 q6 q7 q8 q9
  have kk := hW ad H locs ls cells slots q1 q2 q3 q4 q5 q6 (z_okC (fun i hi => by cases hi; exact Or.inr (Nat.le_add_right _ _)) q7) q8 q9
  unfold zk_ldcs at hck
  split at hck
  case h_2 => cases hck
  next idx =>
  simp only [Bool.and_eq_true, decide_eq_true_eq] at hck
  obtain ⟨⟨hck, rfl⟩, hn⟩ := hck
  split at hck
  case h_2 => cases hck
  next q hq =>
  simp only [Bool.and_eq_true, decide_eq_true_eq] at hck
  obtain ⟨h1, rfl⟩ := hck
  rw [hn, List.map_cons, z_tr_ref, q2 _ (Or.inr (Nat.le_add_right _ _)), hA.1 a hc] at kk
  have hR2 := (hK.2.2.1 a q hq).1
  rw [h1] at hR2
  exact va_ldcS hx hb hown hR2 hd kk
def zo_slength : zNop := fun _ d _ _ _ k l st h => match st with
  | .ref i :: st => if zB ≤ i ∧ 6 ≤ d ∧ z_cat st ≤ 8 then (match z_strs[i - zB]? with | some q => zn (k + 1) l (.int (Int32.ofNat q.2.2.2.length) :: st) h | none => none) else none
  | _ => none
def zk_slength : zCk := fun M _ _ _ pc ins len pl nx k => match ins with
  | .invokevirtual idx => z_w (.methodLink M.1 idx yJ0_length_8abf5) (pl.getD 0 0) && decide (len = 3) && decide (nx (k + 1) = pc + 3)
  | _ => false
theorem z_ad_str {adK : Nat → Nat} {sb : Nat} {ad0 ad : Nat → Nat} {n0 i : Nat} {q : String × Nat × String × List Int32} (hA : z_A0 adK sb ad0) (q2 : z_ag n0 ad0 ad) (hi : zB ≤ i) (hq : z_strs[i - zB]? = some q) : ad i = adK (i - zB) := by
  have hl := (List.getElem?_eq_some_iff.mp hq).1
  rw [q2 i (Or.inr hi), ← hA.1 _ hl, Nat.add_sub_of_le hi]
theorem zs_slength : z_Sn zo_slength zk_slength := by
  intro p l e R s m args below meth c Z D tc adK adV sb sx M nx ad0 n0 C S d Q a b ci k ins len pl hF hK hA hR hd hck lo st h k' lo' st' h' x y hop kc ks hW
  unfold zo_slength at hop
  split at hop
  case h_2 => cases hop
  next i st2 =>
  by_cases hc : zB ≤ i ∧ 6 ≤ d ∧ z_cat st2 ≤ 8
  case neg => rw [if_neg hc] at hop; cases hop
  rw [if_pos hc] at hop
  obtain ⟨hi, hd2, hcat⟩ := hc
  split at hop
  case h_2 => cases hop
  next q hq =>
  obtain ⟨rfl, rfl, rfl, rfl, rfl, rfl⟩ := zn_inj hop
  obtain ⟨hx, hb, hml, hr, hown, hts, -⟩ := hF
  intro ad H locs ls cells slots q1 q2 q3 q4 q5 q6 q7 q8 q9
  have kk := hW ad H locs ls cells slots q1 q2 q3 q4 q5 q6 (z_okC (z_okV_int _ _) (z_okT q7)) q8 q9
  unfold zk_slength at hck
  split at hck
  case h_2 => cases hck
  next idx =>
  simp only [Bool.and_eq_true, decide_eq_true_eq] at hck
  obtain ⟨⟨h1, rfl⟩, hn⟩ := hck
  rw [hn] at kk
  rw [List.map_cons, z_tr_ref, z_ad_str hA q2 hi hq]
  have hlq := z_strs_len q (List.mem_of_getElem? hq)
  obtain ⟨r1, r2, r3, r4⟩ := hR
  refine z_callp (va_runV (As := []) ⟨hx, hb, hml, hown, hts⟩ (zc_length l Z D tc adK adV sb sx (i - zB) q hq (by omega)) (cwV 0 hts (z_good (ws := wsV M.1 idx RJ0 yJ0_length_8abf5 (.code yJ0_length_8abf5 cJ0_length_8abf5 1 (some .int) :: z_T)) (fun w hw => by
      rcases List.mem_append.mp hw with h | h
      · simp only [List.mem_cons, List.not_mem_nil, or_false] at h
        rcases h with rfl | rfl | rfl | rfl
        · exact z_w_in h1
        · exact (z_w_in (i := 656) (by decide +kernel))
        · exact (z_w_in (i := 657) (by decide +kernel))
        · exact (z_w_in (i := 113) (by decide +kernel))
      · rcases List.mem_cons.mp h with rfl | h
        · exact (z_w_in (i := 658) (by decide +kernel))
        · exact h)) rfl rfl rfl (by decide +kernel) ⟨by show 1 + 1 ≤ _; omega, by show 8 + (1 + 11) + 60 * 1 ≤ _; omega⟩) ⟨z_P1_blind, vk_recv (hK.2.2.1 _ q hq).2 (i := 0) (by decide) q4, fun U hU hW => ⟨rfl, hK.at q4 hU hW⟩⟩ rfl rfl q5.1 rfl (lv_room (by rw [z_cat_tr]; exact hcat)) hd ⟨by omega, by omega⟩) kk
def zo_scharAt : zNop := fun _ d _ _ _ k l st h => match st with
  | .int j :: .ref i :: st => if zB ≤ i ∧ 6 ≤ d ∧ z_cat st ≤ 8 then (match z_strs[i - zB]? with | some q => if z_in j q.2.2.2.length = true then zn (k + 1) l (.int ((q.2.2.2.getD j.toNatClampNeg 0) &&& 255) :: st) h else none | none => none) else none
  | _ => none
def zk_scharAt : zCk := fun M _ _ _ pc ins len pl nx k => match ins with
  | .invokevirtual idx => z_w (.methodLink M.1 idx yJ0_charAt_5068e) (pl.getD 0 0) && decide (len = 3) && decide (nx (k + 1) = pc + 3)
  | _ => false
theorem zs_scharAt : z_Sn zo_scharAt zk_scharAt := by
  intro p l e R s m args below meth c Z D tc adK adV sb sx M nx ad0 n0 C S d Q a b ci k ins len pl hF hK hA hR hd hck lo st h k' lo' st' h' x y hop kc ks hW
  unfold zo_scharAt at hop
  split at hop
  case h_2 => cases hop
  next j i st2 =>
  by_cases hc : zB ≤ i ∧ 6 ≤ d ∧ z_cat st2 ≤ 8
  case neg => rw [if_neg hc] at hop; cases hop
  rw [if_pos hc] at hop
  obtain ⟨hi, hd2, hcat⟩ := hc
  split at hop
  case h_2 => cases hop
  next q hq =>
  by_cases hj : z_in j q.2.2.2.length = true
  case neg => rw [if_neg hj] at hop; cases hop
  rw [if_pos hj] at hop
  obtain ⟨rfl, rfl, rfl, rfl, rfl, rfl⟩ := zn_inj hop
  obtain ⟨hx, hb, hml, hr, hown, hts, -⟩ := hF
  intro ad H locs ls cells slots q1 q2 q3 q4 q5 q6 q7 q8 q9
  have kk := hW ad H locs ls cells slots q1 q2 q3 q4 q5 q6 (z_okC (z_okV_int _ _) (z_okT (z_okT q7))) q8 q9
  unfold zk_scharAt at hck
  split at hck
  case h_2 => cases hck
  next idx =>
  simp only [Bool.and_eq_true, decide_eq_true_eq] at hck
  obtain ⟨⟨h1, rfl⟩, hn⟩ := hck
  rw [hn] at kk
  rw [List.map_cons, List.map_cons, z_tr_ref, z_ad_str hA q2 hi hq]
  have hlq := z_strs_len q (List.mem_of_getElem? hq)
  obtain ⟨j9, hj9, e9⟩ := vp_in_of (z_in_ok hj) (by omega)
  subst e9
  rw [nI_clamp (by omega)] at kk
  obtain ⟨r1, r2, r3, r4⟩ := hR
  refine z_callp (va_runV (As := [.int (nI j9)]) ⟨hx, hb, hml, hown, hts⟩ (zc_charAt l Z D tc adK adV sb sx (i - zB) q hq (by omega) j9 hj9) (cwV 1 hts (z_good (ws := wsV M.1 idx RJ0 yJ0_charAt_5068e (.code yJ0_charAt_5068e cJ0_charAt_5068e 2 (some .char) :: z_T)) (fun w hw => by
      rcases List.mem_append.mp hw with h | h
      · simp only [List.mem_cons, List.not_mem_nil, or_false] at h
        rcases h with rfl | rfl | rfl | rfl
        · exact z_w_in h1
        · exact (z_w_in (i := 673) (by decide +kernel))
        · exact (z_w_in (i := 674) (by decide +kernel))
        · exact (z_w_in (i := 113) (by decide +kernel))
      · rcases List.mem_cons.mp h with rfl | h
        · exact (z_w_in (i := 675) (by decide +kernel))
        · exact h)) rfl rfl rfl (by decide +kernel) ⟨by show 3 + 1 ≤ _; omega, by show 8 + (2 + 11) + 60 * 3 ≤ _; omega⟩) ⟨z_P1_blind, vk_recv (hK.2.2.1 _ q hq).2 (i := 0) (by decide) q4, fun U hU hW => ⟨rfl, hK.at q4 hU hW⟩⟩ rfl rfl q5.1 rfl (lv_room (by rw [z_cat_tr]; exact hcat)) hd ⟨by omega, by omega⟩) kk
def zo_oinit : zNop := fun _ d _ _ _ k l st h => match st with
  | .ref _ :: st => if 6 ≤ d ∧ z_cat st ≤ 8 then zn (k + 1) l st h else none
  | _ => none
def zk_oinit : zCk := fun M _ _ _ pc ins len pl nx k => match ins with
  | .invokespecial idx => z_w (.methodLink M.1 idx objectInit) (pl.getD 0 0) && decide (len = 3) && decide (nx (k + 1) = pc + 3)
  | _ => false
theorem zs_oinit : z_Sn zo_oinit zk_oinit := by
  intro p l e R s m args below meth c Z D tc adK adV sb sx M nx ad0 n0 C S d Q a b ci k ins len pl hF hK hA hR hd hck lo st h k' lo' st' h' x y hop kc ks hW
  unfold zo_oinit at hop
  split at hop
  case h_2 => cases hop
  next i st2 =>
  by_cases hc : 6 ≤ d ∧ z_cat st2 ≤ 8
  case neg => rw [if_neg hc] at hop; cases hop
  rw [if_pos hc] at hop
  obtain ⟨hd2, hcat⟩ := hc
  obtain ⟨rfl, rfl, rfl, rfl, rfl, rfl⟩ := zn_inj hop
  obtain ⟨hx, hb, hml, hr, hown, hts, -⟩ := hF
  intro ad H locs ls cells slots q1 q2 q3 q4 q5 q6 q7 q8 q9
  have kk := hW ad H locs ls cells slots q1 q2 q3 q4 q5 q6 (z_okT q7) q8 q9
  unfold zk_oinit at hck
  split at hck
  case h_2 => cases hck
  next idx =>
  simp only [Bool.and_eq_true, decide_eq_true_eq] at hck
  obtain ⟨⟨h1, rfl⟩, hn⟩ := hck
  rw [hn] at kk
  obtain ⟨r1, r2, r3, r4⟩ := hR
  have hz := z_cat_tr ad st'
  refine W.objInit hx hb hown (hts _ (z_w_in h1)) (hts (.instanceMethod objectInit) (z_w_in (i := 136) (by decide +kernel))) (hts (.code objectInit ⟨#[0xb1]⟩ 1 none) (z_w_in (i := 137) (by decide +kernel))) rfl (by rw [hml]; exact q5.1) rfl hd (by omega) (by show 2 * 0 + ((st'.map (z_tr ad)).map fun v => v.category).sum + 12 ≤ _; omega) kk
def zo_min : zNop := fun _ d _ _ _ k l st h => match st with
  | .int y :: .int x :: st => if 6 ≤ d ∧ z_cat st ≤ 8 then zn (k + 1) l (.int (if y < x then y else x) :: st) h else none
  | _ => none
def zk_min : zCk := fun M _ _ _ pc ins len pl nx k => match ins with
  | .invokestatic idx => z_w (.methodLink M.1 idx Lib.Math.min.name) (pl.getD 0 0) && decide (len = 3) && decide (nx (k + 1) = pc + 3)
  | _ => false
theorem zs_min : z_Sn zo_min zk_min := by
  intro p l e R s m args below meth c Z D tc adK adV sb sx M nx ad0 n0 C S d Q a b ci k ins len pl hF hK hA hR hd hck lo st h k' lo' st' h' x y hop kc ks hW
  unfold zo_min at hop
  split at hop
  case h_2 => cases hop
  next vy vx st2 =>
  by_cases hc : 6 ≤ d ∧ z_cat st2 ≤ 8
  case neg => rw [if_neg hc] at hop; cases hop
  rw [if_pos hc] at hop
  obtain ⟨hd2, hcat⟩ := hc
  obtain ⟨rfl, rfl, rfl, rfl, rfl, rfl⟩ := zn_inj hop
  obtain ⟨hx, hb, hml, hr, hown, hts, -⟩ := hF
  intro ad H locs ls cells slots q1 q2 q3 q4 q5 q6 q7 q8 q9
  have kk := hW ad H locs ls cells slots q1 q2 q3 q4 q5 q6 (z_okC (z_okV_int _ _) (z_okT (z_okT q7))) q8 q9
  unfold zk_min at hck
  split at hck
  case h_2 => cases hck
  next idx =>
  simp only [Bool.and_eq_true, decide_eq_true_eq] at hck
  obtain ⟨⟨h1, rfl⟩, hn⟩ := hck
  rw [hn] at kk
  obtain ⟨r1, r2, r3, r4⟩ := hR
  have hz := z_cat_tr ad st2
  exact va_mmin hx hb (by rw [hml]; exact q5.1.symm) hown (hts _ (z_w_in h1)) (hts (.static Lib.Math.min.name) (z_w_in (i := 438) (by decide +kernel))) (hts (.initialized "java/lang/Math") (z_w_in (i := 117) (by decide +kernel))) (hts (.code Lib.Math.min.name Lib.Math.min.code 2 (some .int)) (z_w_in (i := 439) (by decide +kernel))) (by omega) (by omega) (by omega) (by omega) hd kk
def zo_max : zNop := fun _ d _ _ _ k l st h => match st with
  | .int y :: .int x :: st => if 6 ≤ d ∧ z_cat st ≤ 8 then zn (k + 1) l (.int (if x < y then y else x) :: st) h else none
  | _ => none
def zk_max : zCk := fun M _ _ _ pc ins len pl nx k => match ins with
  | .invokestatic idx => z_w (.methodLink M.1 idx Lib.Math.max.name) (pl.getD 0 0) && decide (len = 3) && decide (nx (k + 1) = pc + 3)
  | _ => false
theorem zs_max : z_Sn zo_max zk_max := by
  intro p l e R s m args below meth c Z D tc adK adV sb sx M nx ad0 n0 C S d Q a b ci k ins len pl hF hK hA hR hd hck lo st h k' lo' st' h' x y hop kc ks hW
  unfold zo_max at hop
  split at hop
  case h_2 => cases hop
  next vy vx st2 =>
  by_cases hc : 6 ≤ d ∧ z_cat st2 ≤ 8
  case neg => rw [if_neg hc] at hop; cases hop
  rw [if_pos hc] at hop
  obtain ⟨hd2, hcat⟩ := hc
  obtain ⟨rfl, rfl, rfl, rfl, rfl, rfl⟩ := zn_inj hop
  obtain ⟨hx, hb, hml, hr, hown, hts, -⟩ := hF
  intro ad H locs ls cells slots q1 q2 q3 q4 q5 q6 q7 q8 q9
  have kk := hW ad H locs ls cells slots q1 q2 q3 q4 q5 q6 (z_okC (z_okV_int _ _) (z_okT (z_okT q7))) q8 q9
  unfold zk_max at hck
  split at hck
  case h_2 => cases hck
  next idx =>
  simp only [Bool.and_eq_true, decide_eq_true_eq] at hck
  obtain ⟨⟨h1, rfl⟩, hn⟩ := hck
  rw [hn] at kk
  obtain ⟨r1, r2, r3, r4⟩ := hR
  have hz := z_cat_tr ad st2
  exact va_mmax hx hb (by rw [hml]; exact q5.1.symm) hown (hts _ (z_w_in h1)) (hts (.static Lib.Math.max.name) (z_w_in (i := 1171) (by decide +kernel))) (hts (.initialized "java/lang/Math") (z_w_in (i := 117) (by decide +kernel))) (hts (.code Lib.Math.max.name Lib.Math.max.code 2 (some .int)) (z_w_in (i := 1172) (by decide +kernel))) (by omega) (by omega) (by omega) (by omega) hd kk
def zo_acopy : zNop := fun _ d _ _ _ k l st h => match st with
  | .int n :: .int dp :: .ref i1 :: .int sp :: .ref i0 :: st => match h[i0]?, h[i1]? with
    | some (.inl (0, (n0, .inl f))), some (.inl (0, (n1, .inl g))) => if 6 ≤ d ∧ z_cat st ≤ 8 ∧ ¬ sp < 0 ∧ ¬ dp < 0 ∧ ¬ n < 0 ∧ sp.toNatClampNeg + n.toNatClampNeg ≤ n0 ∧ dp.toNatClampNeg + n.toNatClampNeg ≤ n1 then zn (k + 1) l st (h.set i1 (.inl (0, (n1, .inl (va_cpy f g sp.toNatClampNeg dp.toNatClampNeg n.toNatClampNeg))))) else none
    | _, _ => none
  | _ => none
def zk_acopy : zCk := fun M _ _ _ pc ins len pl nx k => match ins with
  | .invokestatic idx => z_w (.methodLink M.1 idx arraycopyName) (pl.getD 0 0) && decide (len = 3) && decide (nx (k + 1) = pc + 3)
  | _ => false
theorem zs_acopy : z_Sn zo_acopy zk_acopy := by
  intro p l e R s m args below meth c Z D tc adK adV sb sx M nx ad0 n0 C S d Q a b ci k ins len pl hF hK hA hR hd hck lo st h k' lo' st' h' x y hop kc ks hW
  unfold zo_acopy at hop
  split at hop
  case h_2 => cases hop
  next n dp i1 sp i0 st2 =>
  split at hop
  case h_2 => cases hop
  next n0' f n1' g he0 he1 =>
  by_cases hc : 6 ≤ d ∧ z_cat st2 ≤ 8 ∧ ¬ sp < 0 ∧ ¬ dp < 0 ∧ ¬ n < 0 ∧ sp.toNatClampNeg + n.toNatClampNeg ≤ n0' ∧ dp.toNatClampNeg + n.toNatClampNeg ≤ n1'
  case neg => rw [if_neg hc] at hop; cases hop
  rw [if_pos hc] at hop
  obtain ⟨hd2, hcat, c1, c2, c3, c4, c5⟩ := hc
  obtain ⟨rfl, rfl, rfl, rfl, rfl, rfl⟩ := zn_inj hop
  obtain ⟨hx, hb, hml, hr, hown, hts, -⟩ := hF
  intro ad H locs ls cells slots q1 q2 q3 q4 q5 q6 q7 q8 q9
  unfold zk_acopy at hck
  split at hck
  case h_2 => cases hck
  next idx =>
  simp only [Bool.and_eq_true, decide_eq_true_eq] at hck
  obtain ⟨⟨h1, rfl⟩, hn⟩ := hck
  obtain ⟨r1, r2, r3, r4⟩ := hR
  have hz := z_cat_tr ad st'
  have e9 : nativeFrameWords "java/lang/System" "arraycopy" 5 ≤ 40 := by decide
  refine va_copyi hx hb (by rw [hml]; exact q5.1.symm) hown (hts _ (z_w_in h1)) (hts (.native arraycopyName) (z_w_in (i := 421) (by decide +kernel))) (hts (.static arraycopyName) (z_w_in (i := 420) (by decide +kernel))) (hts (.initialized "java/lang/System") (z_w_in (i := 111) (by decide +kernel))) hK.2.1 q1.1 q1.2.1 q4 i0 i1 0 0 (z_ws_get he0) (z_ws_get he1) rfl rfl rfl c1 c2 c3 c4 c5 (fun _ _ => rfl) (by omega) (by omega) hd fun H1 locs1 g1 g2 g3 => ?_
  have kk := hW ad H1 locs1 ls cells slots (q1.set (e := .inl (0, (n1', .inl (va_cpy f g sp.toNatClampNeg dp.toNatClampNeg n.toNatClampNeg)))) g1 g2 trivial) q2 (by rw [List.length_set]; exact q3) g3 q5 (by rw [List.length_set]; exact q6) (by rw [List.length_set]; exact z_okT (z_okT (z_okT (z_okT (z_okT q7))))) q8 q9
  rw [hn] at kk
  exact kk
def zo_clone : zNop := fun _ d _ _ _ k l st h => match st with
  | .ref i :: st => match h[i]? with
    | some (.inl (0, (n, .inl f))) => if 6 ≤ d ∧ z_cat st ≤ 8 ∧ h.length < zB then some (k + 1, l, .ref h.length :: st, h ++ [.inl (0, (n, .inl f))], 1, n) else none
    | _ => none
  | _ => none
def zk_clone : zCk := fun M _ _ _ pc ins len pl nx k => match ins with
  | .invokevirtual idx => z_w (.methodLink M.1 idx ⟨"[I", "clone", "()Ljava/lang/Object;"⟩) (pl.getD 0 0) && decide (len = 3) && decide (nx (k + 1) = pc + 3)
  | _ => false
theorem z_K_int {D : va_G} {tc : Nat → ClassId} {U : State} (h : va_K D vwCl (z_tys tc) U) : U.vm.findClass "[I" = some (tc 0) := (h.2 0 _ rfl).2
theorem zs_clone : z_Sn zo_clone zk_clone := by
  intro p l e R s m args below meth c Z D tc adK adV sb sx M nx ad0 n0 C S d Q a b ci k ins len pl hF hK hA hR hd hck lo st h k' lo' st' h' x y hop kc ks hW
  unfold zo_clone at hop
  split at hop
  case h_2 => cases hop
  next i st2 =>
  split at hop
  case h_2 => cases hop
  next n f he =>
  by_cases hc : 6 ≤ d ∧ z_cat st2 ≤ 8 ∧ h.length < zB
  case neg => rw [if_neg hc] at hop; cases hop
  rw [if_pos hc] at hop
  obtain ⟨hd2, hcat, hlen⟩ := hc
  simp only [Option.some.injEq, Prod.mk.injEq] at hop
  obtain ⟨rfl, rfl, rfl, rfl, rfl, rfl⟩ := hop
  obtain ⟨hx, hb, hml, hr, hown, hts, -⟩ := hF
  intro ad H locs ls cells slots q1 q2 q3 q4 q5 q6 q7 q8 q9
  unfold zk_clone at hck
  split at hck
  case h_2 => cases hck
  next idx =>
  simp only [Bool.and_eq_true, decide_eq_true_eq] at hck
  obtain ⟨⟨h1, rfl⟩, hn⟩ := hck
  obtain ⟨r1, r2, r3, r4⟩ := hR
  have hz := z_cat_tr ad st2
  refine va_clone (ad := "[I") (x := (n, .inl f)) (ty := .int) hx hb (by rw [hml]; exact q5.1.symm) hown (hts _ (z_w_in h1)) (hts (.sameMethod "[I" "java/lang/Object" "clone" "()Ljava/lang/Object;") (z_w_in (i := 956) (by decide +kernel))) (hts (.native ⟨"java/lang/Object", "clone", "()Ljava/lang/Object;"⟩) (z_w_in (i := 957) (by decide +kernel))) (hts (.instanceMethod ⟨"java/lang/Object", "clone", "()Ljava/lang/Object;"⟩) (z_w_in (i := 958) (by decide +kernel))) (hts (.selects "[I" ⟨"[I", "clone", "()Ljava/lang/Object;"⟩ ⟨"java/lang/Object", "clone", "()Ljava/lang/Object;"⟩) (z_w_in (i := 959) (by decide +kernel))) hK.2.2.2.2.2.2.2.2.2.2.2.2.1 hK.2.1 q1.1 q1.2.1 q4 (fun q hq => Nat.le_trans hK.1 hq) i 0 (z_ws_get he) rfl (z_K_int hK.2.1) (fun i9 v9 h9 => by
      have h8 : (arrV (tc 0) n (fun j => .int (f j))).slots[i9]? = some v9 := h9
      unfold arrV at h8
      simp only [Array.getElem?_ofFn] at h8
      split at h8
      · cases h8; rfl
      · cases h8) (by omega) (by omega) (by omega) (by show slots + n ≤ _; omega) hd fun q H1 g0 g1 g2 g3 => ?_
  have kk := z_W_new (x := 1) (y := n) (q := q) (cells := cells) (slots := slots) hW q1 q2 q3 q5 q6 (z_okT q7) hlen (fun _ _ => rfl) trivial g1 g2 g3 (by omega) (by omega)
  rw [hn] at kk
  exact kk
def zo_cast : zNop := fun _ _ _ _ _ k l st h => match st with
  | .ref i :: st => match h[i]? with
    | some (.inl (0, (n, .inl f))) => zn (k + 1) l (.ref i :: st) h
    | _ => none
  | _ => none
def zk_cast : zCk := fun M _ _ _ pc ins len pl nx k => match ins with
  | .checkcast idx => z_w (.classLink M.1 idx "[I") (pl.getD 0 0) && decide (len = 3) && decide (nx (k + 1) = pc + 3)
  | _ => false
theorem zs_cast : z_Sn zo_cast zk_cast := by
  intro p l e R s m args below meth c Z D tc adK adV sb sx M nx ad0 n0 C S d Q a b ci k ins len pl hF hK hA hR hd hck lo st h k' lo' st' h' x y hop kc ks hW
  unfold zo_cast at hop
  split at hop
  case h_2 => cases hop
  next i st2 =>
  split at hop
  case h_2 => cases hop
  next n f he =>
  obtain ⟨rfl, rfl, rfl, rfl, rfl, rfl⟩ := zn_inj hop
  obtain ⟨hx, hb, hml, hr, hown, hts, -⟩ := hF
  intro ad H locs ls cells slots q1 q2 q3 q4 q5 q6 q7 q8 q9
  have kk := hW ad H locs ls cells slots q1 q2 q3 q4 q5 q6 q7 q8 q9
  unfold zk_cast at hck
  split at hck
  case h_2 => cases hck
  next idx =>
  simp only [Bool.and_eq_true, decide_eq_true_eq] at hck
  obtain ⟨⟨h1, rfl⟩, hn⟩ := hck
  rw [hn] at kk
  exact va_castA hx hb hown (hts _ (z_w_in h1)) q1.1 i (z_ws_get he) (z_K_int hK.2.1) hd kk
end
section
/-! THE RUN of the abstract machine: fuel, depth, method, step -/
def z_no : zNop := fun _ _ _ _ _ _ _ _ _ => none
def zk_no : zCk := fun _ _ _ _ _ _ _ _ _ _ => false
theorem zs_no : z_Sn z_no zk_no := by
  intro p l e R s m args below meth c Z D tc adK adV sb sx M nx ad0 n0 C S d Q a b ci k ins len pl hF hK hA hR hd hck
  cases hck
def z_ops : List zNop := [zo_const, zo_iload, zo_aload, zo_lload, zo_istore, zo_astore, zo_lstore, zo_iinc, zo_iadd, zo_isub, zo_imul, zo_idiv, zo_irem, zo_ishl, zo_ishr, zo_iushr, zo_iand, zo_ior, zo_ixor, zo_i2l, zo_l2i, zo_i2b, zo_ladd, zo_lmul, zo_ldiv, zo_lconst, zo_lcmp, zo_dup, zo_dup2, zo_pop, zo_goto, zo_if, zo_icmp, zo_ifnn, z_no, zo_tsw, zo_lsw2, zo_get, zo_put, zo_iald, zo_iast, zo_bald, zo_bast, zo_last, zo_aald, zo_aast, zo_alen, zo_newa, zo_anew, zo_new, z_no, z_no, z_no, z_no, z_no, z_no, z_no, zo_oinit, zo_ldcs, zo_slength, zo_scharAt, zo_acopy, z_no, zo_null, z_no, zo_sald, zo_slen, zo_min, zo_max, z_no, zo_clone, zo_cast]
def z_cks : List zCk := [zk_const, zk_iload, zk_aload, zk_lload, zk_istore, zk_astore, zk_lstore, zk_iinc, zk_iadd, zk_isub, zk_imul, zk_idiv, zk_irem, zk_ishl, zk_ishr, zk_iushr, zk_iand, zk_ior, zk_ixor, zk_i2l, zk_l2i, zk_i2b, zk_ladd, zk_lmul, zk_ldiv, zk_lconst, zk_lcmp, zk_dup, zk_dup2, zk_pop, zk_goto, zk_if, zk_icmp, zk_ifnn, zk_no, zk_tsw, zk_lsw2, zk_get, zk_put, zk_iald, zk_iast, zk_bald, zk_bast, zk_last, zk_aald, zk_aast, zk_alen, zk_newa, zk_anew, zk_new, zk_no, zk_no, zk_no, zk_no, zk_no, zk_no, zk_no, zk_oinit, zk_ldcs, zk_slength, zk_scharAt, zk_acopy, zk_no, zk_null, zk_no, zk_sald, zk_slen, zk_min, zk_max, zk_no, zk_clone, zk_cast]
theorem z_all : ∀ o, z_Sn (z_ops.getD o z_no) (z_cks.getD o zk_no)
  | 0 => zs_const | 1 => zs_iload | 2 => zs_aload | 3 => zs_lload | 4 => zs_istore | 5 => zs_astore | 6 => zs_lstore | 7 => zs_iinc
  | 8 => zs_iadd | 9 => zs_isub | 10 => zs_imul | 11 => zs_idiv | 12 => zs_irem | 13 => zs_ishl | 14 => zs_ishr | 15 => zs_iushr
  | 16 => zs_iand | 17 => zs_ior | 18 => zs_ixor | 19 => zs_i2l | 20 => zs_l2i | 21 => zs_i2b | 22 => zs_ladd | 23 => zs_lmul
  | 24 => zs_ldiv | 25 => zs_lconst | 26 => zs_lcmp | 27 => zs_dup | 28 => zs_dup2 | 29 => zs_pop | 30 => zs_goto | 31 => zs_if
  | 32 => zs_icmp | 33 => zs_ifnn | 34 => zs_no | 35 => zs_tsw | 36 => zs_lsw2 | 37 => zs_get | 38 => zs_put | 39 => zs_iald
  | 40 => zs_iast | 41 => zs_bald | 42 => zs_bast | 43 => zs_last | 44 => zs_aald | 45 => zs_aast | 46 => zs_alen | 47 => zs_newa
  | 48 => zs_anew | 49 => zs_new | 50 => zs_no | 51 => zs_no | 52 => zs_no | 53 => zs_no | 54 => zs_no | 55 => zs_no
  | 56 => zs_no | 57 => zs_oinit | 58 => zs_ldcs | 59 => zs_slength | 60 => zs_scharAt | 61 => zs_acopy | 62 => zs_no | 63 => zs_null
  | 64 => zs_no | 65 => zs_sald | 66 => zs_slen | 67 => zs_min | 68 => zs_max | 69 => zs_no | 70 => zs_clone | 71 => zs_cast
  | n + 72 => zs_no
/-- how a method ends here -/
def z_fin (M : zMi) (i : zI) (d : Nat) (st : List Value) : Option (zO × Nat × Nat) := match i.1, st with
  | 50, [.int r] => (match M.2.2.2.2.1 with | some ty => if narrow ty (.int r) = .int r then some (.inl (some (.int r)), 0, 0) else none | none => none)
  | 51, [.long r] => some (.inl (some (.long r)), 0, 0)
  | 52, [.ref r] => some (.inl (some (.ref r)), 0, 0)
  | 53, [] => some (.inl none, 0, 0)
  | 62, st => if 6 ≤ d ∧ z_cat st ≤ 8 then some (.inr i.2.1, 1, 6) else none
  | _, _ => none
/-- which method is called here, with what -/
def z_cal0 (i : zI) (d : Nat) (st : List Value) (h : zH) : Option (Nat × List Value × List Value) :=
  if d = 0 ∨ st.length < i.2.2.1 then none else match i.1 with
  | 54 => (match st.drop i.2.2.1 with
    | .ref r :: rest => (match h[r]? with
      | some (.inr (c, _)) => if (c : Int) = i.2.2.2 ∧ z_cat rest ≤ 8 then some (i.2.1, .ref r :: (st.take i.2.2.1).reverse, rest) else none
      | _ => none)
    | _ => none)
  | 55 => if z_cat (st.drop i.2.2.1) ≤ 8 then some (i.2.1, (st.take i.2.2.1).reverse, st.drop i.2.2.1) else none
  | 72 => if z_cat (st.drop i.2.2.1) ≤ 8 then some (i.2.1, (st.take i.2.2.1).reverse, st.drop i.2.2.1) else none
  | 56 => (match st.drop i.2.2.1 with
    | .ref r :: rest => if z_cat rest ≤ 8 then some (i.2.1, .ref r :: (st.take i.2.2.1).reverse, rest) else none
    | _ => none)
  | 73 => (match st.drop i.2.2.1 with
    | .ref r :: rest => if z_cat rest ≤ 8 then some (i.2.1, .ref r :: (st.take i.2.2.1).reverse, rest) else none
    | _ => none)
  | _ => none
def z_cal (i : zI) (d : Nat) (st : List Value) (h : zH) : Option (Nat × List Value × List Value) := match z_cal0 i d st h with
  | some (a, as, rest) => (match z_ms[a]? with | some M' => if (lg_sl as).length ≤ M'.2.2.2.1 then some (a, as, rest) else none | none => none)
  | none => none
def z_drop (l : zL) (x : Nat) : zL := l.filter (fun q => !(q.1 == x) && !(q.1 + 1 == x && q.2.category == 2))
abbrev zRes : Type := zO × zH × Nat × Nat
def z_add (x y : Nat) (r : zRes) : zRes := (r.1, r.2.1, r.2.2.1 + x, r.2.2.2 + y)
def z_run (sx : zX) : Nat → Nat → Nat → Nat → zL → List Value → zH → Option zRes
  | 0, _, _, _, _, _, _ => none
  | n + 1, d, j, k, lo, st, h => match z_ms[j]?, z_cs[j]?, z_hs[j]? with
    | some M, some cs, some hs => (match cs[k]? with
      | none => none
      | some i => (match z_fin M i d st with
        | some (o, x, y) => some (o, h, x, y)
        | none => (match z_cal i d st h with
          | some (j', as, rest) => (match z_run sx n (d - 1) j' 0 (lv_args 0 as) [] h with
            | some (.inl v, h', x, y) => (z_run sx n d j (k + 1) lo (v.toList ++ rest) h').map (z_add x y)
            | some (.inr E, h', x, y) => if i.1 = 54 then (match hs.find? (fun q => q.2.2.2.2.1 == E) with
                | some q => (z_run sx n d j q.2.2.2.2.2.1 (z_drop lo q.2.2.2.2.2.2) [] h').map (z_add x y)
                | none => if hs = [] then some (.inr E, h', x, y) else none) else none
            | none => none)
          | none => (match (z_ops.getD i.1 z_no) sx d i.2.1 i.2.2.1 i.2.2.2 k lo st h with
            | some (k', lo', st', h', x, y) => (z_run sx n d j k' lo' st' h').map (z_add x y)
            | none => none))))
    | _, _, _ => none
end
section
/-! THE RUN IS THE MACHINE'S: contracts of all methods out of one induction -/
def z_nxOf (is : List zJ) (k : Nat) : Nat := ((is[k]?).map (fun q => q.1)).getD 0
def z_Pm (l : Launch) (Z : Nat) (D : va_G) (tc : Nat → ClassId) (adK adV : Nat → Nat) (sb : Nat) (sx : zX) (ad : Nat → Nat) (h : zH) (as : List Value) : Array Value → State → Prop := va_Pc (as.map (z_tr ad)) (fun U => z_K l Z D tc adK adV sb sx U ∧ z_R Z D tc ad h U.heap)
def z_Qm (Z : Nat) (D : va_G) (tc : Nat → ClassId) (ad : Nat → Nat) (n : Nat) (h' : zH) (o : zO) : Array Value → State → Outcome → State → Prop := fun _ st oc t => ∃ v, o = .inl v ∧ ∃ ad', z_ag n ad ad' ∧ oc = .returned (v.map (z_tr ad')) ∧ z_R Z D tc ad' h' t.heap ∧ n ≤ h'.length ∧ (∀ w, v = some w → z_okV h'.length w) ∧ va_F (fun q => Z ≤ q) st t
def z_Xm (Z : Nat) (D : va_G) (tc : Nat → ClassId) (ad : Nat → Nat) (n : Nat) (h' : zH) (o : zO) : String → State → State → Prop := fun E st t => ∃ x, o = .inr x ∧ z_excs[x]? = some E ∧ ∃ ad', z_ag n ad ad' ∧ z_R Z D tc ad' h' t.heap ∧ n ≤ h'.length ∧ va_F (fun q => Z ≤ q) st t
theorem z_Pm_blind {l : Launch} {Z : Nat} {D : va_G} {tc : Nat → ClassId} {adK adV : Nat → Nat} {sb : Nat} {sx : zX} {ad : Nat → Nat} {h : zH} {as : List Value} : FrameBlind (z_Pm l Z D tc adK adV sb sx ad h as) := fun a U g mk q => ⟨q.1, q.2.1.call g mk a, q.2.2⟩
section ZC
variable {p : Program} {l : Launch} {e : Env} {R : Room} {s : State} {m : MethodId} {args : Array Value} {below : List Frame} {meth : Method} {c : Code} {H : Heap} {locs : List Loc} {cells slots : Nat} {Q : State → Prop} {pc : Nat} {ls : Array Slot} {st0 rest : List Value} {a : Array Value} {Z : Nat} {D : va_G} {tc : Nat → ClassId} {ad : Nat → Nat} {n mc ms : Nat} {h' : zH} {o : zO}
theorem z_callx (hr : vx_Run p l e R s m args below meth c H locs cells slots mc ms (F0 m pc ls st0) rest (z_Qm Z D tc ad n h' o a) (z_Xm Z D tc ad n h' o) (fun q => Z ≤ q)) (hS : va_S (fun q => Z ≤ q) s.heap H locs)
    (kk : ∀ v, o = .inl v → ∀ (ad' : Nat → Nat) (H1 : Heap) (locs1 : List Loc), z_ag n ad ad' → z_R Z D tc ad' h' H1 → n ≤ h'.length → va_S (fun q => Z ≤ q) s.heap H1 locs1 → (∀ w, v = some w → z_okV h'.length w) → W p l e R s m args below meth c H1 locs1 (cells + mc) (slots + ms) Q (F0 m (pc + 3) ls ((v.map (z_tr ad')).toList ++ rest)))
    (kx : ∀ x E, o = .inr x → z_excs[x]? = some E → ∀ (ad' : Nat → Nat) (H1 : Heap) (locs1 : List Loc) (q9 : Addr) (ce : Cell), z_ag n ad ad' → z_R Z D tc ad' h' H1 → n ≤ h'.length → va_S (fun q => Z ≤ q) s.heap H1 locs1 → H1[q9]? = some ce → ce.vm = .none → s.vm.findClass E = some ce.cls → vx_W p l e R s m args below meth c H1 locs1 (cells + mc) (slots + ms) Q (F0 m pc ls rest) q9) : W p l e R s m args below meth c H locs cells slots Q (F0 m pc ls st0) := by
  intro T hT X
  rcases hr T hT X with ⟨v, st₀, t, T', L, h0, X', hL, e1, e2, ⟨v9, ho, ad', g1, hv, g2, g3, g4, hF⟩, st⟩ | ⟨q, st₀, t, T', L, E, ce, h0, X', hL, e1, e2, ⟨x9, ho, hE, ad', g1, g2, g3, hF⟩, hce, hcv, hcl, st⟩
  · cases hv
    obtain ⟨k1, k2, k3⟩ := vx_keep h0 e1 hS (fun _ _ h => h) (fun _ h => h) hL hF
    obtain ⟨t2, a1, b1⟩ := kk v9 ho ad' T'.heap (locs ++ L) g1 (by rw [e1]; exact g2) g3 k3 g4 T' rfl X'
    exact ⟨t2, st t2 a1, b1⟩
  · obtain ⟨k1, k2, k3⟩ := vx_keep h0 e1 hS (fun _ _ h => h) (fun _ h => h) hL hF
    obtain ⟨t2, a1, b1⟩ := kx x9 E ho hE ad' T'.heap (locs ++ L) q ce g1 (by rw [e1]; exact g2) g3 k3 (by rw [e1]; exact hce) hcv hcl T' rfl X'
    exact ⟨t2, st.trans a1, b1⟩
theorem z_calln (hr : va_Run p l e R s m args below meth c H locs cells slots mc ms (F0 m pc ls st0) rest (z_Qm Z D tc ad n h' o a) (fun q => Z ≤ q)) (hS : va_S (fun q => Z ≤ q) s.heap H locs)
    (kk : ∀ v, o = .inl v → ∀ (ad' : Nat → Nat) (H1 : Heap) (locs1 : List Loc), z_ag n ad ad' → z_R Z D tc ad' h' H1 → n ≤ h'.length → va_S (fun q => Z ≤ q) s.heap H1 locs1 → (∀ w, v = some w → z_okV h'.length w) → W p l e R s m args below meth c H1 locs1 (cells + mc) (slots + ms) Q (F0 m (pc + 3) ls ((v.map (z_tr ad')).toList ++ rest))) : W p l e R s m args below meth c H locs cells slots Q (F0 m pc ls st0) := by
  intro T hT X
  obtain ⟨v, st₀, t, T', L, h0, X', hL, e1, e2, ⟨v9, ho, ad', g1, hv, g2, g3, g4, hF⟩, st⟩ := hr T hT X
  cases hv
  obtain ⟨k1, k2, k3⟩ := vx_keep h0 e1 hS (fun _ _ h => h) (fun _ h => h) hL hF
  obtain ⟨t2, a1, b1⟩ := kk v9 ho ad' T'.heap (locs ++ L) g1 (by rw [e1]; exact g2) g3 k3 g4 T' rfl X'
  exact ⟨t2, st t2 a1, b1⟩
end ZC
/-- a method that doesn't throw here -/
theorem z_toMet {l : Launch} {y : MethodName} {ws : List Cond} {rm : Room} {Pc : Array Value → State → Prop} {Z : Nat} {D : va_G} {tc : Nat → ClassId} {ad : Nat → Nat} {n mc ms : Nat} {h' : zH} {v : Option Value} {free : Addr → Prop} (h : vx_Met l y ws rm Pc (z_Qm Z D tc ad n h' (.inl v)) (z_Xm Z D tc ad n h' (.inl v)) mc ms free) : Met l y ws rm Pc (z_Qm Z D tc ad n h' (.inl v)) mc ms free := by
  intro p e ha hc hk s m args below hf happ hP hK
  obtain ⟨n9, o9, h1, h2, h3, h4⟩ := h p e ha hc hk s m args below hf happ hP hK
  refine ⟨n9, o9, h1, h2, h3, ?_⟩
  rcases h4 with h4 | ⟨q, -, E, ce, L, ⟨x, hx, -⟩, -⟩
  · exact h4
  · cases hx
/-! the check of a table row -/
def z_ics : List Nat := [72, 82, 355, 368, 377]
def z_xn : List String := ["java/lang/RuntimeException", "java/lang/Exception"]
def z_mem (w : Cond) : Bool := decide (w ∈ lw_tbl) && goodWord w
theorem z_mem_in {w : Cond} (h : z_mem w = true) : w ∈ z_T := by
  unfold z_mem at h
  rw [Bool.and_eq_true] at h
  exact List.mem_filter.mpr ⟨of_decide_eq_true h.1, h.2⟩
def z_yok (y : MethodName) (n : Nat) : Bool := decide (y.cls ≠ "java/lang/invoke/MethodHandle" ∧ y.cls ≠ "java/lang/invoke/VarHandle" ∧ (parseMethodDescriptor y.desc).map (fun d => d.parameters.length) = some n)
abbrev zHd : Type := Nat × Nat × Nat × Nat × Nat × Nat × Nat
def z_ckB (M : zMi) (is : List zJ) (hs : List zHd) (i : zI) (q : zJ) (k : Nat) : Bool := match i.1 with
  | 50 => (match q.2.1 with | .ireturn => decide (q.2.2.1 = 1) | _ => false)
  | 51 => (match q.2.1 with | .lreturn => decide (q.2.2.1 = 1) && decide (M.2.2.2.2.1 = some .long) | _ => false)
  | 52 => (match q.2.1 with | .areturn => decide (q.2.2.1 = 1) && (match M.2.2.2.2.1 with | some (.object _) => true | some (.array _) => true | _ => false) | _ => false)
  | 53 => (match q.2.1 with | .return_ => decide (q.2.2.1 = 1) && decide (M.2.2.2.2.1 = none) | _ => false)
  | 62 => (match q.2.1, z_excs[i.2.1]?, z_ics[i.2.1]?, z_strs[i.2.2.1]? with
    | .new ik, some cls, some ic, some sq => decide (M.1 = RX11) && decide (hs = []) && decide (q.2.2.1 = 3) && z_w (.classLink M.1 ik cls) (q.2.2.2.getD 0 0) && z_w (.initialized cls) (q.2.2.2.getD 1 0) && decide (sq.1 = M.1) && decide (decode M.2.2.1 (q.1 + 3) = .ok (.dup, 1)) && ((decide (decode M.2.2.1 (q.1 + 4) = .ok (.ldc sq.2.1, 2)) && decide (decode M.2.2.1 (q.1 + 6) = .ok (.invokespecial ic, 3)) && decide (decode M.2.2.1 (q.1 + 9) = .ok (.athrow, 1))) || (decide (decode M.2.2.1 (q.1 + 4) = .ok (.ldc_w sq.2.1, 3)) && decide (decode M.2.2.1 (q.1 + 7) = .ok (.invokespecial ic, 3)) && decide (decode M.2.2.1 (q.1 + 10) = .ok (.athrow, 1))))
    | _, _, _, _ => false)
  | 54 => (match q.2.1, z_ms[i.2.1]? with
    | .invokevirtual idx, some M' => decide (q.2.2.1 = 3) && decide (z_nxOf is (k + 1) = q.1 + 3) && decide (M'.2.2.2.2.2 = []) && decide (M'.2.1.cls = M'.1) && decide ((vwCl[i.2.2.2.toNat]?).map (fun x => x.1) = some M'.1) && decide (0 ≤ i.2.2.2) && z_w (.methodLink M.1 idx M'.2.1) (q.2.2.2.getD 0 0) && z_w (.instanceMethod M'.2.1) (q.2.2.2.getD 1 0) && z_w (.selects M'.1 M'.2.1 M'.2.1) (q.2.2.2.getD 2 0) && z_w (.initialized M'.1) (q.2.2.2.getD 3 0) && z_w (.code M'.2.1 M'.2.2.1 M'.2.2.2.1 M'.2.2.2.2.1) (q.2.2.2.getD 4 0) && z_yok M'.2.1 i.2.2.1 && decide (M'.2.2.2.1 ≤ 41) && hs.all (fun x => decide (x.1 ≤ q.1) && decide (q.1 < x.2.1))
    | _, _ => false)
  | 55 => (match q.2.1, z_ms[i.2.1]? with
    | .invokestatic idx, some M' => decide (q.2.2.1 = 3) && decide (z_nxOf is (k + 1) = q.1 + 3) && decide (M'.2.2.2.2.2 = []) && decide (M'.2.1.cls = M'.1) && z_w (.methodLink M.1 idx M'.2.1) (q.2.2.2.getD 0 0) && z_w (.static M'.2.1) (q.2.2.2.getD 1 0) && z_w (.initialized M'.1) (q.2.2.2.getD 2 0) && z_w (.code M'.2.1 M'.2.2.1 M'.2.2.2.1 M'.2.2.2.2.1) (q.2.2.2.getD 3 0) && z_yok M'.2.1 i.2.2.1 && decide (M'.2.2.2.1 ≤ 41)
    | _, _ => false)
  | 72 => (match q.2.1, z_ms[i.2.1]? with
    | .invokestatic idx, some M' => decide (q.2.2.1 = 3) && decide (z_nxOf is (k + 1) = q.1 + 3) && !decide (M'.2.2.2.2.2 = []) && decide (M'.2.1.cls = M'.1) && z_w (.methodLink M.1 idx M'.2.1) (q.2.2.2.getD 0 0) && z_w (.static M'.2.1) (q.2.2.2.getD 1 0) && z_w (.initialized M'.1) (q.2.2.2.getD 2 0) && z_w (.codeWith M'.2.1 M'.2.2.1 M'.2.2.2.1 M'.2.2.2.2.1 M'.2.2.2.2.2) (q.2.2.2.getD 3 0) && z_yok M'.2.1 i.2.2.1 && decide (M'.2.2.2.1 ≤ 41)
    | _, _ => false)
  | 56 => (match q.2.1, z_ms[i.2.1]? with
    | .invokespecial idx, some M' => decide (q.2.2.1 = 3) && decide (z_nxOf is (k + 1) = q.1 + 3) && decide (M'.2.2.2.2.2 = []) && decide (M'.2.1.cls = M'.1) && decide (M'.2.1.name = "<init>") && decide (M'.2.2.2.2.1 = none) && z_w (.methodLink M.1 idx M'.2.1) (q.2.2.2.getD 0 0) && z_w (.instanceMethod M'.2.1) (q.2.2.2.getD 1 0) && z_w (.initialized M'.1) (q.2.2.2.getD 2 0) && z_w (.code M'.2.1 M'.2.2.1 M'.2.2.2.1 none) (q.2.2.2.getD 3 0) && z_yok M'.2.1 i.2.2.1 && decide (M'.2.2.2.1 ≤ 41)
    | _, _ => false)
  | 73 => (match q.2.1, z_ms[i.2.1]? with
    | .invokespecial idx, some M' => decide (q.2.2.1 = 3) && decide (z_nxOf is (k + 1) = q.1 + 3) && decide (M'.2.2.2.2.2 = []) && decide (M'.2.1.cls = M'.1) && decide (M'.2.1.name = "<init>") && decide (M'.2.2.2.2.1 = none) && decide (Cond.methodLinkNest M.1 idx M'.2.1 RX11 ∈ z_nest) && z_w (.instanceMethod M'.2.1) (q.2.2.2.getD 0 0) && z_w (.initialized M'.1) (q.2.2.2.getD 1 0) && z_w (.code M'.2.1 M'.2.2.1 M'.2.2.2.1 none) (q.2.2.2.getD 2 0) && z_yok M'.2.1 i.2.2.1 && decide (M'.2.2.2.1 ≤ 41)
    | _, _ => false)
  | o => (z_cks.getD o zk_no) M i.2.1 i.2.2.1 i.2.2.2 q.1 q.2.1 q.2.2.1 q.2.2.2 (z_nxOf is) k
def z_ckA (M : zMi) (is : List zJ) (hs : List zHd) (i : zI) (q : zJ) (k : Nat) : Bool := decide (i.1 = 99) || (decide (decode M.2.2.1 q.1 = .ok (q.2.1, q.2.2.1)) && z_ckB M is hs i q k)
/-- a handler: its row, its class, and that it begins with astore -/
def z_ckH (M : zMi) (is : List zJ) (x : zHd) : Bool := decide (0 < x.2.2.2.1) && decide (x.2.2.2.2.2.2 < M.2.2.2.1) && decide (0 < x.2.2.2.2.2.1) && (match z_excs[x.2.2.2.2.1]?, is[x.2.2.2.2.2.1 - 1]? with
  | some E, some q => z_mem (.classLink M.1 x.2.2.2.1 E) && decide (q.1 = x.2.2.1) && decide (decode M.2.2.1 q.1 = .ok (q.2.1, q.2.2.1)) && (match q.2.1 with
    | .astore v => decide (v = x.2.2.2.2.2.2) && decide (q.2.2.1 = 2) && decide (z_nxOf is x.2.2.2.2.2.1 = q.1 + 2)
    | .astore_n v => decide ((v : Nat) = x.2.2.2.2.2.2) && decide (q.2.2.1 = 1) && decide (z_nxOf is x.2.2.2.2.2.1 = q.1 + 1)
    | _ => false)
  | _, _ => false)
def z_ckL (M : zMi) (is : List zJ) (hs : List zHd) : Nat → List zI → List zJ → Bool
  | _, [], [] => true
  | k, i :: cs, q :: qs => z_ckA M is hs i q k && z_ckL M is hs (k + 1) cs qs
  | _, _, _ => false
def z_ckM (M : zMi) (cs : List zI) (is : List zJ) (hs : List zHd) : Bool := decide (M.2.1.cls = M.1) && plainName M.1 && decide (z_nxOf is 0 = 0) && decide (M.2.2.2.2.2 = hs.map (fun x => (x.1, x.2.1, x.2.2.1, x.2.2.2.1))) && hs.all (z_ckH M is) && z_ckL M is hs 0 cs is
def z_OK : Prop := ∀ (j : Nat) (M : zMi) (cs : List zI) (is : List zJ) (hs : List zHd), z_ms[j]? = some M → z_cs[j]? = some cs → z_is[j]? = some is → z_hs[j]? = some hs → z_ckM M cs is hs = true
def z_LEN : Prop := z_cs.length = z_ms.length ∧ z_is.length = z_ms.length ∧ z_hs.length = z_ms.length
theorem z_ckL_at {M : zMi} {is : List zJ} {hs : List zHd} : ∀ (k0 : Nat) (cs : List zI) (qs : List zJ), z_ckL M is hs k0 cs qs = true → ∀ (k : Nat) (i : zI), cs[k]? = some i → ∃ q, qs[k]? = some q ∧ z_ckA M is hs i q (k0 + k) = true
  | _, [], _, _, k, i, h => by simp at h
  | _, _ :: _, [], h, _, _, _ => by cases h
  | k0, c0 :: cs, q0 :: qs, h, k, i, hi => by
    rw [z_ckL, Bool.and_eq_true] at h
    match k with
    | 0 =>
      simp only [List.getElem?_cons_zero, Option.some.injEq] at hi ⊢
      subst hi
      exact ⟨q0, rfl, h.1⟩
    | k + 1 =>
      simp only [List.getElem?_cons_succ] at hi ⊢
      obtain ⟨q, e1, e2⟩ := z_ckL_at (k0 + 1) cs qs h.2 k i hi
      exact ⟨q, e1, by rw [show k0 + (k + 1) = k0 + 1 + k by omega]; exact e2⟩
end
section
/-! a throw whose class's constructor links its super constructor at another place than the usual one -/
def z_atX (own : String) (ic : Nat) (X : String) (ix : Nat) (rx : ByteArray) (names : List String) : List Cond := (Bundle.ownAtomsX own ic X ix rx names).filter vx_no
set_option maxHeartbeats 1000000 in
theorem z_ctorX {p : Program} {l : Launch} {e : Env} {R : Room} {s : State} {m : MethodId} {args : Array Value} {below : List Frame} {meth : Method} {c : Code} {U0 : State} {locs : List Loc} {cells slots : Nat} (X : Stand p l e R s m args below meth c U0 locs cells slots) (hexec : p.tables.exec = Jvm.exec) (htr : e.platform.stackTraces = false)
    {ix : Nat} {rx : ByteArray} (x0 : decode rx 0 = .ok (.aload_n 0, 1)) (x1 : decode rx 1 = .ok (.aload_n 1, 1)) (x2 : decode rx 2 = .ok (.invokespecial ix, 3)) (x5 : decode rx 5 = .ok (.return_, 1))
    {own cls : String} {names : List String} {ic : Nat} (hown : s.vm.findClass own = some m.cls) (hcls : Bundle.fit cls = true) (hnames : ∀ n ∈ names, Bundle.fit n = true)
    (h : ∀ a ∈ Bundle.ownAtomsX own ic cls ix rx names, a.before args s = true) (hlocs : ∀ x ∈ locs, ∀ cell, s.heap[x.base]? = some cell → cell.vm.isStatics = false)
    {a : Addr} {cX : ClassId} {kX : Class} (hfX : s.vm.findClass cls = some cX) (hkX : s.vm.classes[cX]? = some kX) (hcell : U0.heap[a]? = some (freshCell cX kX)) (hnew : s.heap.size ≤ a) {msg : Value} (hmsg : msg.isRef = true)
    {g : JFrame} (hg : g.method = m) (hsize : g.locals.size = c.maxLocals) (hlk : g.locked = none) (hen : g.entered = []) {rest : List Value} (hstack : g.stack = msg :: .ref a :: .ref a :: rest)
    (hd6 : decode c.code g.pc = .ok (.invokespecial ic, 3)) (hd9 : decode c.code (g.pc + 3) = .ok (.athrow, 1)) (hout : ∀ x ∈ c.exceptionTable.toList, covers x (g.pc + 3) = false)
    (hRf : names.length + 3 < R.frames) (hRl : 2 * g.monitorRoom + ((Value.ref a :: rest).map fun v => v.category).sum + (13 * (names.length + 1) + 42) ≤ R.locals) (hlocks : meth.locks = false) :
    ∃ U : State, Steps p.tables e below (U0.setTop g) U ∧ U.status = .running ∧ Ended U below (.threw a) ∧ s.WarmedH U.vm ∧ s.sameButNew ({ U with vm := s.vm } : State) locs cells slots ∧
      ∃ ce, U.heap[a]? = some ce ∧ ce.vm = .none ∧ s.vm.findClass cls = some ce.cls := by
  have hpl : e.platform.magicAccessors = ({} : Platform).magicAccessors := by rw [X.admits.platform]
  have hw : ∀ {w : Cond}, w ∈ Bundle.ownAtomsX own ic cls ix rx names → w.holds args s none s [] = true := fun hx => h _ hx
  obtain ⟨T, Z0, L, -, Y⟩ := ThrowableC.of_atoms (args := args) (pl := e.platform) (by rw [X.admits.platform]) (by rw [X.admits.platform]) hpl (fun x hx => h x (by simp [Bundle.ownAtomsX, hx]))
  obtain ⟨Z, M, LZ, LM, hnZ⟩ := Init0T.ofS_atoms (args := args) hpl L Y (fun x hx => h x (by simp [Bundle.ownAtomsX, hx]))
  obtain ⟨P1, Ps, hlen, L1, hL, hP1, hk1, hk2⟩ := Bundle.chainSX (args := args) hpl hnZ x0 x1 x2 x5 names cls hcls hnames (fun x hx => h x (by simp [Bundle.ownAtomsX, hx]))
  have hfc : s.vm.findClass cls = some P1.m.cls := findClass_of_methodNamed hP1
  cases Option.some.inj (hfX.symm.trans hfc)
  obtain ⟨c1, kX', hc1, hk, hord, -, -, hn6⟩ := Cond.instantiable_spec (hw (w := .instantiable cls 6) (by simp [Bundle.ownAtomsX]))
  cases Option.some.inj (hc1.symm.trans hfc)
  cases Option.some.inj (hkX.symm.trans hk)
  have hs0 : selectMethod e.platform s.vm P1.m.cls T.fill0 = .method T.fill0 := by
    obtain ⟨c2, r2, m2, q1, q2, q3, q4, -⟩ := Cond.selects_spec (hw (w := .selects cls Bundle.tFill0 Bundle.tFill0) (by simp [Bundle.ownAtomsX]))
    cases Option.some.inj (q1.symm.trans hfc)
    cases Option.some.inj (q2.symm.trans (State.methodFound?_of_named Y.fill0 (by decide)))
    cases Option.some.inj (q3.symm.trans Y.fill0)
    rw [Launch.admits_selectMethod X.admits]
    exact q4
  have hsF : selectMethod e.platform s.vm P1.m.cls T.fill = .method T.fill := by
    obtain ⟨c2, r2, m2, q1, q2, q3, q4, -⟩ := Cond.selects_spec (hw (w := .selects cls Bundle.tFill Bundle.tFill) (by simp [Bundle.ownAtomsX]))
    cases Option.some.inj (q1.symm.trans hfc)
    cases Option.some.inj (q2.symm.trans (State.methodFound?_of_named Y.fill (by decide)))
    cases Option.some.inj (q3.symm.trans Y.fill)
    rw [Launch.admits_selectMethod X.admits]
    exact q4
  obtain ⟨cS0, hcS0, hiss⟩ := Y.statics
  obtain ⟨u0, hu0⟩ := Cond.staticRefV Y.unassigned L.unassignedStatic L.statics hcS0 hiss (hw (w := .isRef (.static Bundle.tN "UNASSIGNED_STACK" Bundle.steD)) (by simp [Bundle.ownAtomsX]))
  obtain ⟨sen, hsen⟩ := Cond.staticRefV Y.sentinel L.sentinelStatic L.statics hcS0 hiss (hw (w := .isRef (.static Bundle.tN "SUPPRESSED_SENTINEL" Bundle.listD)) (by simp [Bundle.ownAtomsX]))
  obtain ⟨ci198, i198, fB, b1, b2, b3, b4, -, hnB, htB, hffB⟩ := Cond.ownField (t := .object "java/lang/Object") Y.found L.cls (by decide +kernel) (hw (w := .fieldLink Bundle.tN 198 Bundle.tN "backtrace" "Ljava/lang/Object;") (by simp [Bundle.ownAtomsX])) (hw (w := .lays Bundle.tN Bundle.tN "backtrace" "Ljava/lang/Object;") (by simp [Bundle.ownAtomsX])) e.platform hpl
  obtain ⟨cS, hcS, heS, -, hkeep⟩ := X.same.2.2.2.2.2 T.aS cS0 hcS0
  have hcS : U0.heap[T.aS]? = some cS := hcS
  have hoff : ∀ i, (⟨T.aS, i⟩ : Loc) ∉ locs := fun i hmem => by
    have h9 := hlocs _ hmem cS0 hcS0
    rw [hiss] at h9
    cases h9
  have hkn : cS.vm ≠ .unknown := by
    rw [heS]
    intro hu
    rw [show cS0.vm = .unknown from hu] at hiss
    cases hiss
  have hne : T.aS ≠ a := Nat.ne_of_lt (Nat.lt_of_lt_of_le (Array.getElem?_eq_some_iff.mp hcS0).1 hnew)
  obtain ⟨iM, hffM⟩ := Y.msg
  obtain ⟨tyC, dC, hdC, hdnC⟩ := Cond.laysAt hfc hk Y.cause (hw (w := .lays cls Bundle.tN "cause" "Ljava/lang/Throwable;") (by simp [Bundle.ownAtomsX]))
  obtain ⟨tyS, dS, hdS, hdnS⟩ := Cond.laysAt hfc hk Y.stack (hw (w := .lays cls Bundle.tN "stackTrace" Bundle.steD) (by simp [Bundle.ownAtomsX]))
  obtain ⟨tyP, dP, hdP, hdnP⟩ := Cond.laysAt hfc hk Y.supp (hw (w := .lays cls Bundle.tN "suppressedExceptions" Bundle.listD) (by simp [Bundle.ownAtomsX]))
  obtain ⟨tyM, dM, hdM, hdnM⟩ := Cond.laysAt hfc hk hffM (hw (w := .lays cls Bundle.tN "detailMessage" "Ljava/lang/String;") (by simp [Bundle.ownAtomsX]))
  obtain ⟨tyB, dB, hdB, hdnB⟩ := Cond.laysAt hfc hk hffB (hw (w := .lays cls Bundle.tN "backtrace" "Ljava/lang/Object;") (by simp [Bundle.ownAtomsX]))
  have bC := Cond.laysApart hdB hdC hdnB hdnC (by rw [hnB, Y.causeName]; decide)
  have bS := Cond.laysApart hdB hdS hdnB hdnS (by rw [hnB, Y.stackName]; decide)
  have bP := Cond.laysApart hdB hdP hdnB hdnP (by rw [hnB, Y.suppName]; decide)
  have hskip : SkipFacts T e.platform s (fun u => u) u0 ((preparedCellV T.toThrowableT (freshCell P1.m.cls kX) a u0 sen).withEntry U0.cur) :=
    ⟨{ ci198 := ci198, i198 := i198, fBack := fB }, ⟨b1, b2, b3, b4⟩, by
      have h9 := fresh_default (c := P1.m.cls) tyB
      rw [htB] at h9
      simpa [preparedCellV, Cell.setSlot, Cell.withEntry, Array.getElem?_setIfInBounds, bC, bS, bP, bC.symm, bS.symm, bP.symm, defaultValue] using h9, fun _ _ => rfl⟩
  obtain ⟨tm, mC, cdC, kC, vm₁, hnC, -, -, -, -, -, -, -, hW₁, st1⟩ := Steps.initColdS (tb := p.tables) (e := e) (below := below) (s := s) (U := U0) X.here hexec X.warmed hpl hown (t := Bundle.initS cls) rfl rfl (Bundle.fit_spec hcls).2
    (hw (w := .methodLink own ic (Bundle.initS cls)) (by simp [Bundle.ownAtomsX])) (h (.instanceMethod (Bundle.initS cls)) (by cases names <;> simp [Bundle.ownAtomsX, Bundle.chainSAtomsX, Bundle.passSAtoms])) (bytes := rx) (maxL := 2) (h (.code (Bundle.initS cls) rx 2 none) (by cases names <;> simp [Bundle.ownAtomsX, Bundle.chainSAtomsX, Bundle.passSAtoms]))
    (f := g) hg (a := a) (msg := msg) (rest := .ref a :: rest) hstack hd6
  cases Option.some.inj (hnC.symm.trans hP1)
  have X₁ := X.noted hW₁
  obtain ⟨vm₂, X₂, st2⟩ := X₁.ctorMessageOffV hexec (g := { g with stack := .ref a :: rest }) hg hsize T L Z LZ M LM (P1 :: Ps)
    (fun P hP => by rcases List.mem_cons.mp hP with rfl | hP; exact L1; exact hL P hP) ⟨hk1, hk2⟩ (u0 := u0) (sen := sen) (self := a) hmsg (cell := freshCell P1.m.cls kX) (cellS := cS)
    hcell (fun _ => by simp) (by simp) rfl rfl hs0 hsF hcS hne hkn (by rw [hkeep _ (hoff _)]; exact hu0) (by rw [hkeep _ (hoff _)]; exact hsen)
    (Takes.of_laid hk hord tyC (by rw [Y.causeType]; rfl)) (Takes.of_laid hk hord tyS (by rw [Y.stackType]; exact fits_refV_array _ u0)) (Takes.of_laid hk hord tyP (by rw [Y.suppType]; exact fits_refV_object _ sen))
    (Takes.of_laid hk hord tyM (by rw [Y.msgType]; exact fits_refV_object _ ⟨msg, hmsg⟩)) Y.objLocals hskip htr [] hd6
    (by simp only [List.length_cons, hlen]; omega) (by simp only [List.length_cons, hlen]; exact hRl)
  obtain ⟨hwalk, hrun, hended, hWU, hsame⟩ := X₂.athrowLeaves hexec (g := { g with stack := .ref a :: rest, pc := g.pc + 3 }) hg hlk hen hout (a := a) (rest := rest) rfl hd9
  have hlt : a < ((U0.setVm vm₁).setVm vm₂).heap.size := (Array.getElem?_eq_some_iff.mp hcell).1
  have hU := heapAt_setCell_self (s := (U0.setVm vm₁).setVm vm₂) (plainBareV T.toThrowableT (freshCell P1.m.cls kX) a u0 sen msg) hlt
  refine ⟨_, st1 _ (fun acts => ?_), hrun, hended, hWU, hsame.weaken (fun y hy hlt' => ?_) (Nat.le_refl _) (Nat.le_refl _), _, hU, rfl, hfc⟩
  · rw [doInvoke_state]
    exact st2 _ hwalk
  · rcases List.mem_append.mp hy with h1 | h1
    · exact h1
    · have hb : y.base = a := by
        simp only [List.mem_cons, List.not_mem_nil, or_false] at h1
        rcases h1 with rfl | rfl | rfl | rfl | rfl <;> rfl
      rw [hb] at hlt'
      exact absurd hlt' (Nat.not_lt.mpr hnew)
section Ends
variable {p : Program} {l : Launch} {e : Env} {R : Room} {s : State} {m : MethodId} {args : Array Value} {below : List Frame} {meth : Method} {c : Code} {H : Heap} {locs : List Loc} {cells slots : Nat} {Q : State → Prop}
variable {mc ms : Nat} {free : Addr → Prop} {A0 A1 : Nat → Prop} {H0 : Heap} {a : Array Value} {ls : Array Slot} {st0 rest : List Value}
variable {Qc : Array Value → State → Outcome → State → Prop} {XC : String → State → State → Prop}
/-- 'throw new E("text")': new; dup; ldc; invokespecial; athrow -/
theorem z_throwX {cc : ByteArray} {pc : Nat} (hexec : p.tables.exec = Jvm.exec) (hb : c.code = cc) (hl : l.stackTraces = false) {own cls text : String} {names : List String} {ik is ic mc ms sa : Nat} {A : Nat → Prop}
    {ix : Nat} {rx : ByteArray} (x0 : decode rx 0 = .ok (.aload_n 0, 1)) (x1 : decode rx 1 = .ok (.aload_n 1, 1)) (x2 : decode rx 2 = .ok (.invokespecial ix, 3)) (x5 : decode rx 5 = .ok (.return_, 1))
    (hown : s.vm.findClass own = some m.cls) (hcls : Bundle.fit cls = true) (hnames : ∀ n ∈ names, Bundle.fit n = true)
    (hk : (Cond.classLink own ik cls).before args s = true) (hini : (Cond.initialized cls).before args s = true) (hstr : vk_R own is text sa s) (hat : ∀ w ∈ z_atX own ic cls ix rx names, w.before args s = true)
    (hgood : ∀ w ∈ Cond.classLink own ik cls :: Cond.initialized cls :: z_atX own ic cls ix rx names, vx_ot w = true)
    (hU : vx_Zq Bundle.tN "UNASSIGNED_STACK" Bundle.steD A s s.heap) (hN : vx_Zq Bundle.tN "SUPPRESSED_SENTINEL" Bundle.listD A s s.heap) (hS : va_S A s.heap H locs) (hsize : ls.size = c.maxLocals)
    (d0 : decode cc pc = .ok (.new ik, 3)) (d3 : decode cc (pc + 3) = .ok (.dup, 1)) (d4 : decode cc (pc + 4) = .ok (.ldc is, 2)) (d6 : decode cc (pc + 6) = .ok (.invokespecial ic, 3)) (d9 : decode cc (pc + 9) = .ok (.athrow, 1))
    (hout : ∀ x ∈ c.exceptionTable.toList, covers x (pc + 9) = false)
    (hRframes : names.length + 3 < R.frames) (hRlocals : (rest.map fun v => v.category).sum + (13 * (names.length + 1) + 43) ≤ R.locals) (hRcells : cells + 1 ≤ R.cells) (hRslots : slots + 6 ≤ R.slots) (hlocks : meth.locks = false)
    (hx : ∀ t : State, s.vm.Alike t.vm → H.size ≤ t.heap.size → (∀ q : Nat, q < H.size → t.heap[q]? = H[q]?) → XC cls s t)
    (hf : ∀ z ∈ locs, free z.base) (hc : cells + 1 ≤ mc) (hs : slots + 6 ≤ ms) :
    W p l e R s m args below meth c H locs cells slots (vx_MQ below Qc XC args s mc ms free) (F0 m pc ls rest) := by
  intro T hT X
  have htr : e.platform.stackTraces = false := (show e.platform.stackTraces = l.stackTraces by rw [X.admits.platform]).trans hl
  have Y := vx_rebase X (R' := { frames := R.frames, locals := R.locals, cells := 1, slots := 6 }) (Nat.le_refl _) (Nat.le_refl _) hRcells hRslots
  obtain ⟨s', hA⟩ : ∃ z, z = (T.setVm s.vm).setFrames (.invoking m args :: below) := ⟨_, rfl⟩
  rw [← hA] at Y
  have hvm : s'.vm = s.vm := by rw [hA]; rfl
  have hhp : s'.heap = H := by rw [hA]; exact hT
  have hW0 : s.WarmedH s'.vm := by rw [hvm]; exact State.WarmedH.refl s
  have hat' : ∀ w ∈ z_atX own ic cls ix rx names, w.before args s' = true := fun w hw => vx_ot_at hW0 hvm.symm (hgood w (List.mem_cons_of_mem _ (List.mem_cons_of_mem _ hw))) (hat w hw)
  have hk' : (Cond.classLink own ik cls).before args s' = true := vx_ot_at hW0 hvm.symm (hgood _ List.mem_cons_self) hk
  have hini' : (Cond.initialized cls).before args s' = true := vx_ot_at hW0 hvm.symm (hgood _ (List.mem_cons_of_mem _ List.mem_cons_self)) hini
  have hU' : vx_Zq Bundle.tN "UNASSIGNED_STACK" Bundle.steD A s' s'.heap := by rw [hhp]; exact vx_Zq.moved hW0.alike (hU.kept hS.2.1)
  have hN' : vx_Zq Bundle.tN "SUPPRESSED_SENTINEL" Bundle.listD A s' s'.heap := by rw [hhp]; exact vx_Zq.moved hW0.alike (hN.kept hS.2.1)
  have h : ∀ w ∈ Bundle.ownAtomsX own ic cls ix rx names, w.before args s' = true := vx_own hat' (vx_isRefq hU'.1) (vx_isRefq hN'.1) hU'.2.word hN'.2.word
  have hown' : s'.vm.findClass own = some m.cls := by rw [hvm]; exact hown
  have hins : (Cond.instantiable cls 6).before args s' = true := h _ (by simp [Bundle.ownAtomsX])
  obtain ⟨vm₁, cX, kX, hfX, hkX, -, -, X₁, st1⟩ := Y.newCold hexec (own := own) (C := cls) (index := ik) (n := 6) hown' hk' hins hini'
    (g := F0 m pc ls rest) rfl (by rw [hb]; exact d0) (Nat.le_refl _) (Nat.le_refl _)
  generalize hT1 : (T.setVm vm₁).pushCell { cls := cX, slots := kX.instanceTypes.map defaultValue, vm := .none } = T1 at X₁ st1
  have hcat : (Value.ref T.heap.size).category = 1 := rfl
  have hcellA : T1.heap[T.heap.size]? = some (freshCell cX kX) := by rw [← hT1]; exact State.heap_pushCell_size _ _
  have d3' : decode c.code (pc + 3) = .ok (.dup, 1) := by rw [hb]; exact d3
  have d4' : decode c.code (pc + 4) = .ok (.ldc is, 2) := by rw [hb]; exact d4
  have hstr' : vk_R own is text sa s' := vk_R.warm hW0 hstr
  obtain ⟨U, hsteps, hrun, hend, hW, hsame, ce, hce, hO⟩ := z_ctorX X₁ hexec htr x0 x1 x2 x5 (own := own) (cls := cls) (names := names) (ic := ic) hown' hcls hnames h (fun x hx => nomatch hx) hfX hkX hcellA (by rw [hhp, hT]; exact Nat.le_refl _) (msg := .ref sa) rfl
    (g := { method := m, pc := pc + 6, locals := ls, stack := .ref sa :: .ref T.heap.size :: .ref T.heap.size :: rest, locked := none }) rfl hsize rfl rfl (rest := rest) rfl
    (by rw [hb]; exact d6) (by rw [hb]; exact d9) hout hRframes (by simp only [List.map_cons, List.sum_cons, hcat]; omega) hlocks
  obtain ⟨f1, f2⟩ := vx_frame hsame
  rw [hhp] at f1 f2
  have hWs : s.WarmedH U.vm := State.WarmedH.trans hW0 hW
  have hcl : s.vm.findClass cls = some ce.cls := by
    have h9 := hO.2
    rw [hvm] at h9
    exact h9
  have hall : s.sameButNew ({ U with vm := s.vm } : State) locs mc ms := by
    subst hA
    obtain ⟨e1, e2⟩ := hsame
    rw [State.setFrames_setFrames] at e1
    have h2 : (T.setVm s.vm).sameButNew ({ U with vm := s.vm } : State) [] (0 + 1) (0 + 6) := ⟨e1, e2⟩
    have h3 := X.same.trans h2
    rw [List.append_nil] at h3
    exact h3.mono hc hs
  refine ⟨U, ?_, .threw T.heap.size, hrun, hend, Or.inr ⟨T.heap.size, rfl, cls, ce, locs, hx U hWs.alike f1 (fun q hq => f2 q hq (fun z hz => nomatch hz)), hce, hO.1, hcl, hWs, hall, hf⟩⟩
  refine st1 _ ?_
  show Steps p.tables e below (T1.setTop { method := m, pc := pc + 3, locals := ls, stack := .ref T.heap.size :: rest, locked := none }) _
  jvm_step X₁.here [X₁.here.top, hexec, d3', Value.category]
  exact X₁.ldcString hexec (own := own) (text := text) (index := is) (a := sa) hown' hstr'.1 hstr'.2
    (g := { method := m, pc := pc + 4, locals := ls, stack := .ref T.heap.size :: .ref T.heap.size :: rest, locked := none }) rfl d4' _ hsteps
/-- 'throw new E("text")', the text by a wide index -/
theorem z_throwXW {cc : ByteArray} {pc : Nat} (hexec : p.tables.exec = Jvm.exec) (hb : c.code = cc) (hl : l.stackTraces = false) {own cls text : String} {names : List String} {ik is ic mc ms sa : Nat} {A : Nat → Prop}
    {ix : Nat} {rx : ByteArray} (x0 : decode rx 0 = .ok (.aload_n 0, 1)) (x1 : decode rx 1 = .ok (.aload_n 1, 1)) (x2 : decode rx 2 = .ok (.invokespecial ix, 3)) (x5 : decode rx 5 = .ok (.return_, 1))
    (hown : s.vm.findClass own = some m.cls) (hcls : Bundle.fit cls = true) (hnames : ∀ n ∈ names, Bundle.fit n = true)
    (hk : (Cond.classLink own ik cls).before args s = true) (hini : (Cond.initialized cls).before args s = true) (hstr : vk_R own is text sa s) (hat : ∀ w ∈ z_atX own ic cls ix rx names, w.before args s = true)
    (hgood : ∀ w ∈ Cond.classLink own ik cls :: Cond.initialized cls :: z_atX own ic cls ix rx names, vx_ot w = true)
    (hU : vx_Zq Bundle.tN "UNASSIGNED_STACK" Bundle.steD A s s.heap) (hN : vx_Zq Bundle.tN "SUPPRESSED_SENTINEL" Bundle.listD A s s.heap) (hS : va_S A s.heap H locs) (hsize : ls.size = c.maxLocals)
    (d0 : decode cc pc = .ok (.new ik, 3)) (d3 : decode cc (pc + 3) = .ok (.dup, 1)) (d4 : decode cc (pc + 4) = .ok (.ldc_w is, 3)) (d7 : decode cc (pc + 7) = .ok (.invokespecial ic, 3)) (d10 : decode cc (pc + 10) = .ok (.athrow, 1))
    (hout : ∀ x ∈ c.exceptionTable.toList, covers x (pc + 10) = false)
    (hRframes : names.length + 3 < R.frames) (hRlocals : (rest.map fun v => v.category).sum + (13 * (names.length + 1) + 43) ≤ R.locals) (hRcells : cells + 1 ≤ R.cells) (hRslots : slots + 6 ≤ R.slots) (hlocks : meth.locks = false)
    (hx : ∀ t : State, s.vm.Alike t.vm → H.size ≤ t.heap.size → (∀ q : Nat, q < H.size → t.heap[q]? = H[q]?) → XC cls s t)
    (hf : ∀ z ∈ locs, free z.base) (hc : cells + 1 ≤ mc) (hs : slots + 6 ≤ ms) :
    W p l e R s m args below meth c H locs cells slots (vx_MQ below Qc XC args s mc ms free) (F0 m pc ls rest) := by
  intro T hT X
  have htr : e.platform.stackTraces = false := (show e.platform.stackTraces = l.stackTraces by rw [X.admits.platform]).trans hl
  have Y := vx_rebase X (R' := { frames := R.frames, locals := R.locals, cells := 1, slots := 6 }) (Nat.le_refl _) (Nat.le_refl _) hRcells hRslots
  obtain ⟨s', hA⟩ : ∃ z, z = (T.setVm s.vm).setFrames (.invoking m args :: below) := ⟨_, rfl⟩
  rw [← hA] at Y
  have hvm : s'.vm = s.vm := by rw [hA]; rfl
  have hhp : s'.heap = H := by rw [hA]; exact hT
  have hW0 : s.WarmedH s'.vm := by rw [hvm]; exact State.WarmedH.refl s
  have hat' : ∀ w ∈ z_atX own ic cls ix rx names, w.before args s' = true := fun w hw => vx_ot_at hW0 hvm.symm (hgood w (List.mem_cons_of_mem _ (List.mem_cons_of_mem _ hw))) (hat w hw)
  have hk' : (Cond.classLink own ik cls).before args s' = true := vx_ot_at hW0 hvm.symm (hgood _ List.mem_cons_self) hk
  have hini' : (Cond.initialized cls).before args s' = true := vx_ot_at hW0 hvm.symm (hgood _ (List.mem_cons_of_mem _ List.mem_cons_self)) hini
  have hU' : vx_Zq Bundle.tN "UNASSIGNED_STACK" Bundle.steD A s' s'.heap := by rw [hhp]; exact vx_Zq.moved hW0.alike (hU.kept hS.2.1)
  have hN' : vx_Zq Bundle.tN "SUPPRESSED_SENTINEL" Bundle.listD A s' s'.heap := by rw [hhp]; exact vx_Zq.moved hW0.alike (hN.kept hS.2.1)
  have h : ∀ w ∈ Bundle.ownAtomsX own ic cls ix rx names, w.before args s' = true := vx_own hat' (vx_isRefq hU'.1) (vx_isRefq hN'.1) hU'.2.word hN'.2.word
  have hown' : s'.vm.findClass own = some m.cls := by rw [hvm]; exact hown
  have hins : (Cond.instantiable cls 6).before args s' = true := h _ (by simp [Bundle.ownAtomsX])
  obtain ⟨vm₁, cX, kX, hfX, hkX, -, -, X₁, st1⟩ := Y.newCold hexec (own := own) (C := cls) (index := ik) (n := 6) hown' hk' hins hini'
    (g := F0 m pc ls rest) rfl (by rw [hb]; exact d0) (Nat.le_refl _) (Nat.le_refl _)
  generalize hT1 : (T.setVm vm₁).pushCell { cls := cX, slots := kX.instanceTypes.map defaultValue, vm := .none } = T1 at X₁ st1
  have hcat : (Value.ref T.heap.size).category = 1 := rfl
  have hcellA : T1.heap[T.heap.size]? = some (freshCell cX kX) := by rw [← hT1]; exact State.heap_pushCell_size _ _
  have d3' : decode c.code (pc + 3) = .ok (.dup, 1) := by rw [hb]; exact d3
  have d4' : decode c.code (pc + 4) = .ok (.ldc_w is, 3) := by rw [hb]; exact d4
  have hstr' : vk_R own is text sa s' := vk_R.warm hW0 hstr
  obtain ⟨U, hsteps, hrun, hend, hW, hsame, ce, hce, hO⟩ := z_ctorX X₁ hexec htr x0 x1 x2 x5 (own := own) (cls := cls) (names := names) (ic := ic) hown' hcls hnames h (fun x hx => nomatch hx) hfX hkX hcellA (by rw [hhp, hT]; exact Nat.le_refl _) (msg := .ref sa) rfl
    (g := { method := m, pc := pc + 7, locals := ls, stack := .ref sa :: .ref T.heap.size :: .ref T.heap.size :: rest, locked := none }) rfl hsize rfl rfl (rest := rest) rfl
    (by rw [hb]; exact d7) (by rw [hb]; exact d10) hout hRframes (by simp only [List.map_cons, List.sum_cons, hcat]; omega) hlocks
  obtain ⟨f1, f2⟩ := vx_frame hsame
  rw [hhp] at f1 f2
  have hWs : s.WarmedH U.vm := State.WarmedH.trans hW0 hW
  have hcl : s.vm.findClass cls = some ce.cls := by
    have h9 := hO.2
    rw [hvm] at h9
    exact h9
  have hall : s.sameButNew ({ U with vm := s.vm } : State) locs mc ms := by
    subst hA
    obtain ⟨e1, e2⟩ := hsame
    rw [State.setFrames_setFrames] at e1
    have h2 : (T.setVm s.vm).sameButNew ({ U with vm := s.vm } : State) [] (0 + 1) (0 + 6) := ⟨e1, e2⟩
    have h3 := X.same.trans h2
    rw [List.append_nil] at h3
    exact h3.mono hc hs
  refine ⟨U, ?_, .threw T.heap.size, hrun, hend, Or.inr ⟨T.heap.size, rfl, cls, ce, locs, hx U hWs.alike f1 (fun q hq => f2 q hq (fun z hz => nomatch hz)), hce, hO.1, hcl, hWs, hall, hf⟩⟩
  refine st1 _ ?_
  show Steps p.tables e below (T1.setTop { method := m, pc := pc + 3, locals := ls, stack := .ref T.heap.size :: rest, locked := none }) _
  jvm_step X₁.here [X₁.here.top, hexec, d3', Value.category]
  exact X₁.ldcStringW hexec (own := own) (text := text) (index := is) (a := sa) hown' hstr'.1 hstr'.2
    (g := { method := m, pc := pc + 4, locals := ls, stack := .ref T.heap.size :: .ref T.heap.size :: rest, locked := none }) rfl d4' _ hsteps
end Ends
def z_six13 : ByteArray := ⟨#[0x2a, 0x2b, 0xb7, 0x00, 0x0d, 0xb1]⟩
def z_rxs : List (Nat × ByteArray) := [(7, Bundle.six), (7, Bundle.six), (7, Bundle.six), (13, z_six13), (7, Bundle.six)]
def z_rxOk (q : Nat × ByteArray) : Prop := decode q.2 0 = .ok (.aload_n 0, 1) ∧ decode q.2 1 = .ok (.aload_n 1, 1) ∧ decode q.2 2 = .ok (.invokespecial q.1, 3) ∧ decode q.2 5 = .ok (.return_, 1)
theorem z_rx7 : z_rxOk (7, Bundle.six) := ⟨by decide +kernel, by decide +kernel, by decide +kernel, by decide +kernel⟩
theorem z_rx13 : z_rxOk (13, z_six13) := ⟨by decide +kernel, by decide +kernel, by decide +kernel, by decide +kernel⟩
end
section
theorem z_ckB50 {M : zMi} {is : List zJ} {hs : List zHd} {i : zI} {q : zJ} {k : Nat} (h : i.1 = 50) : z_ckB M is hs i q k = (match q.2.1 with | .ireturn => decide (q.2.2.1 = 1) | _ => false) := by
  unfold z_ckB
  rw [h]
  all_goals rfl
theorem z_ckB51 {M : zMi} {is : List zJ} {hs : List zHd} {i : zI} {q : zJ} {k : Nat} (h : i.1 = 51) : z_ckB M is hs i q k = (match q.2.1 with | .lreturn => decide (q.2.2.1 = 1) && decide (M.2.2.2.2.1 = some .long) | _ => false) := by
  unfold z_ckB
  rw [h]
  all_goals rfl
theorem z_ckB52 {M : zMi} {is : List zJ} {hs : List zHd} {i : zI} {q : zJ} {k : Nat} (h : i.1 = 52) : z_ckB M is hs i q k = (match q.2.1 with | .areturn => decide (q.2.2.1 = 1) && (match M.2.2.2.2.1 with | some (.object _) => true | some (.array _) => true | _ => false) | _ => false) := by
  unfold z_ckB
  rw [h]
  all_goals rfl
theorem z_ckB53 {M : zMi} {is : List zJ} {hs : List zHd} {i : zI} {q : zJ} {k : Nat} (h : i.1 = 53) : z_ckB M is hs i q k = (match q.2.1 with | .return_ => decide (q.2.2.1 = 1) && decide (M.2.2.2.2.1 = none) | _ => false) := by
  unfold z_ckB
  rw [h]
  all_goals rfl
theorem z_ckB62 {M : zMi} {is : List zJ} {hs : List zHd} {i : zI} {q : zJ} {k : Nat} (h : i.1 = 62) : z_ckB M is hs i q k = (match q.2.1, z_excs[i.2.1]?, z_ics[i.2.1]?, z_strs[i.2.2.1]? with
    | .new ik, some cls, some ic, some sq => decide (M.1 = RX11) && decide (hs = []) && decide (q.2.2.1 = 3) && z_w (.classLink M.1 ik cls) (q.2.2.2.getD 0 0) && z_w (.initialized cls) (q.2.2.2.getD 1 0) && decide (sq.1 = M.1) && decide (decode M.2.2.1 (q.1 + 3) = .ok (.dup, 1)) && ((decide (decode M.2.2.1 (q.1 + 4) = .ok (.ldc sq.2.1, 2)) && decide (decode M.2.2.1 (q.1 + 6) = .ok (.invokespecial ic, 3)) && decide (decode M.2.2.1 (q.1 + 9) = .ok (.athrow, 1))) || (decide (decode M.2.2.1 (q.1 + 4) = .ok (.ldc_w sq.2.1, 3)) && decide (decode M.2.2.1 (q.1 + 7) = .ok (.invokespecial ic, 3)) && decide (decode M.2.2.1 (q.1 + 10) = .ok (.athrow, 1))))
    | _, _, _, _ => false) := by
  unfold z_ckB
  rw [h]
  all_goals rfl
theorem z_ckB54 {M : zMi} {is : List zJ} {hs : List zHd} {i : zI} {q : zJ} {k : Nat} (h : i.1 = 54) : z_ckB M is hs i q k = (match q.2.1, z_ms[i.2.1]? with
    | .invokevirtual idx, some M' => decide (q.2.2.1 = 3) && decide (z_nxOf is (k + 1) = q.1 + 3) && decide (M'.2.2.2.2.2 = []) && decide (M'.2.1.cls = M'.1) && decide ((vwCl[i.2.2.2.toNat]?).map (fun x => x.1) = some M'.1) && decide (0 ≤ i.2.2.2) && z_w (.methodLink M.1 idx M'.2.1) (q.2.2.2.getD 0 0) && z_w (.instanceMethod M'.2.1) (q.2.2.2.getD 1 0) && z_w (.selects M'.1 M'.2.1 M'.2.1) (q.2.2.2.getD 2 0) && z_w (.initialized M'.1) (q.2.2.2.getD 3 0) && z_w (.code M'.2.1 M'.2.2.1 M'.2.2.2.1 M'.2.2.2.2.1) (q.2.2.2.getD 4 0) && z_yok M'.2.1 i.2.2.1 && decide (M'.2.2.2.1 ≤ 41) && hs.all (fun x => decide (x.1 ≤ q.1) && decide (q.1 < x.2.1))
    | _, _ => false) := by
  unfold z_ckB
  rw [h]
  all_goals rfl
theorem z_ckB55 {M : zMi} {is : List zJ} {hs : List zHd} {i : zI} {q : zJ} {k : Nat} (h : i.1 = 55) : z_ckB M is hs i q k = (match q.2.1, z_ms[i.2.1]? with
    | .invokestatic idx, some M' => decide (q.2.2.1 = 3) && decide (z_nxOf is (k + 1) = q.1 + 3) && decide (M'.2.2.2.2.2 = []) && decide (M'.2.1.cls = M'.1) && z_w (.methodLink M.1 idx M'.2.1) (q.2.2.2.getD 0 0) && z_w (.static M'.2.1) (q.2.2.2.getD 1 0) && z_w (.initialized M'.1) (q.2.2.2.getD 2 0) && z_w (.code M'.2.1 M'.2.2.1 M'.2.2.2.1 M'.2.2.2.2.1) (q.2.2.2.getD 3 0) && z_yok M'.2.1 i.2.2.1 && decide (M'.2.2.2.1 ≤ 41)
    | _, _ => false) := by
  unfold z_ckB
  rw [h]
  all_goals rfl
theorem z_ckB72 {M : zMi} {is : List zJ} {hs : List zHd} {i : zI} {q : zJ} {k : Nat} (h : i.1 = 72) : z_ckB M is hs i q k = (match q.2.1, z_ms[i.2.1]? with
    | .invokestatic idx, some M' => decide (q.2.2.1 = 3) && decide (z_nxOf is (k + 1) = q.1 + 3) && !decide (M'.2.2.2.2.2 = []) && decide (M'.2.1.cls = M'.1) && z_w (.methodLink M.1 idx M'.2.1) (q.2.2.2.getD 0 0) && z_w (.static M'.2.1) (q.2.2.2.getD 1 0) && z_w (.initialized M'.1) (q.2.2.2.getD 2 0) && z_w (.codeWith M'.2.1 M'.2.2.1 M'.2.2.2.1 M'.2.2.2.2.1 M'.2.2.2.2.2) (q.2.2.2.getD 3 0) && z_yok M'.2.1 i.2.2.1 && decide (M'.2.2.2.1 ≤ 41)
    | _, _ => false) := by
  unfold z_ckB
  rw [h]
  all_goals rfl
theorem z_ckB56 {M : zMi} {is : List zJ} {hs : List zHd} {i : zI} {q : zJ} {k : Nat} (h : i.1 = 56) : z_ckB M is hs i q k = (match q.2.1, z_ms[i.2.1]? with
    | .invokespecial idx, some M' => decide (q.2.2.1 = 3) && decide (z_nxOf is (k + 1) = q.1 + 3) && decide (M'.2.2.2.2.2 = []) && decide (M'.2.1.cls = M'.1) && decide (M'.2.1.name = "<init>") && decide (M'.2.2.2.2.1 = none) && z_w (.methodLink M.1 idx M'.2.1) (q.2.2.2.getD 0 0) && z_w (.instanceMethod M'.2.1) (q.2.2.2.getD 1 0) && z_w (.initialized M'.1) (q.2.2.2.getD 2 0) && z_w (.code M'.2.1 M'.2.2.1 M'.2.2.2.1 none) (q.2.2.2.getD 3 0) && z_yok M'.2.1 i.2.2.1 && decide (M'.2.2.2.1 ≤ 41)
    | _, _ => false) := by
  unfold z_ckB
  rw [h]
  all_goals rfl
theorem z_ckB73 {M : zMi} {is : List zJ} {hs : List zHd} {i : zI} {q : zJ} {k : Nat} (h : i.1 = 73) : z_ckB M is hs i q k = (match q.2.1, z_ms[i.2.1]? with
    | .invokespecial idx, some M' => decide (q.2.2.1 = 3) && decide (z_nxOf is (k + 1) = q.1 + 3) && decide (M'.2.2.2.2.2 = []) && decide (M'.2.1.cls = M'.1) && decide (M'.2.1.name = "<init>") && decide (M'.2.2.2.2.1 = none) && decide (Cond.methodLinkNest M.1 idx M'.2.1 RX11 ∈ z_nest) && z_w (.instanceMethod M'.2.1) (q.2.2.2.getD 0 0) && z_w (.initialized M'.1) (q.2.2.2.getD 1 0) && z_w (.code M'.2.1 M'.2.2.1 M'.2.2.2.1 none) (q.2.2.2.getD 2 0) && z_yok M'.2.1 i.2.2.1 && decide (M'.2.2.2.1 ≤ 41)
    | _, _ => false) := by
  unfold z_ckB
  rw [h]
  all_goals rfl
end
section
theorem z_xt0 : (∀ w ∈ (z_atX RX11 72 "java/lang/IllegalArgumentException" 7 Bundle.six z_xn).filter goodWord, w ∈ lw_tbl) := by decide +kernel
theorem z_xt1 : (∀ w ∈ (z_atX RX11 82 "java/lang/UnsupportedOperationException" 7 Bundle.six z_xn).filter goodWord, w ∈ lw_tbl) := by decide +kernel
theorem z_xt2 : (∀ w ∈ (z_atX RX11 355 "java/lang/IndexOutOfBoundsException" 7 Bundle.six z_xn).filter goodWord, w ∈ lw_tbl) := by decide +kernel
theorem z_xt3 : (∀ w ∈ (z_atX RX11 368 "java/util/NoSuchElementException" 13 z_six13 z_xn).filter goodWord, w ∈ lw_tbl) := by decide +kernel
theorem z_xt4 : (∀ w ∈ (z_atX RX11 377 "java/lang/IllegalStateException" 7 Bundle.six z_xn).filter goodWord, w ∈ lw_tbl) := by decide +kernel
theorem z_xf : ∀ (a : Nat) (cls : String) (ic : Nat), z_excs[a]? = some cls → z_ics[a]? = some ic → ∃ ix rx, z_rxOk (ix, rx) ∧ (∀ w ∈ (z_atX RX11 ic cls ix rx z_xn).filter goodWord, w ∈ z_T) ∧ (∀ w ∈ (z_atX RX11 ic cls ix rx z_xn).filter (fun w => !goodWord w), w ∈ z_xw) ∧ (∀ w ∈ z_atX RX11 ic cls ix rx z_xn, vx_ot w = true) ∧ Bundle.fit cls = true
  | 0, _, _, h1, h2 => by cases h1; cases h2; exact ⟨7, Bundle.six, z_rx7, fun w hw => List.mem_filter.mpr ⟨z_xt0 w hw, (List.mem_filter.mp hw).2⟩, by decide +kernel, by decide +kernel, by decide +kernel⟩
  | 1, _, _, h1, h2 => by cases h1; cases h2; exact ⟨7, Bundle.six, z_rx7, fun w hw => List.mem_filter.mpr ⟨z_xt1 w hw, (List.mem_filter.mp hw).2⟩, by decide +kernel, by decide +kernel, by decide +kernel⟩
  | 2, _, _, h1, h2 => by cases h1; cases h2; exact ⟨7, Bundle.six, z_rx7, fun w hw => List.mem_filter.mpr ⟨z_xt2 w hw, (List.mem_filter.mp hw).2⟩, by decide +kernel, by decide +kernel, by decide +kernel⟩
  | 3, _, _, h1, h2 => by cases h1; cases h2; exact ⟨13, z_six13, z_rx13, fun w hw => List.mem_filter.mpr ⟨z_xt3 w hw, (List.mem_filter.mp hw).2⟩, by decide +kernel, by decide +kernel, by decide +kernel⟩
  | 4, _, _, h1, h2 => by cases h1; cases h2; exact ⟨7, Bundle.six, z_rx7, fun w hw => List.mem_filter.mpr ⟨z_xt4 w hw, (List.mem_filter.mp hw).2⟩, by decide +kernel, by decide +kernel, by decide +kernel⟩
  | n + 5, _, _, h1, _ => by simp [z_excs] at h1
end
section
def z_HR (p : Program) (l : Launch) (e : Env) (R : Room) (s : State) (m : MethodId) (args : Array Value) (below : List Frame) (meth : Method) (c : Code) (Z : Nat) (D : va_G) (tc : Nat → ClassId) (M : zMi) (cs : List zI) (is : List zJ) (hs : List zHd) (ad0 : Nat → Nat) (n0 C S : Nat) (Q : State → Prop) (d : Nat) (o : zO) (hF : zH) : Prop :=
  ∀ (k : Nat) (i : zI) (q : zJ) (lo : zL) (st : List Value) (x y : Nat), cs[k]? = some i → is[k]? = some q → z_ckA M is hs i q k = true → z_fin M i d st = some (o, x, y) → z_W p l e R s m args below meth c Z D tc M (z_nxOf is) ad0 n0 C S Q k lo st hF x y
def z_HX (p : Program) (l : Launch) (e : Env) (R : Room) (s : State) (m : MethodId) (args : Array Value) (below : List Frame) (meth : Method) (c : Code) (Z : Nat) (D : va_G) (tc : Nat → ClassId) (is : List zJ) (hs : List zHd) (ad0 : Nat → Nat) (n0 C S : Nat) (Q : State → Prop) (o : zO) (hF : zH) : Prop :=
  ∀ (x : Nat) (E : String), o = .inr x → z_excs[x]? = some E → hs = [] → ∀ (k : Nat) (ad : Nat → Nat) (H : Heap) (locs : List Loc) (ls : Array Slot) (cells slots : Nat) (rest : List Value) (q9 : Addr) (ce : Cell), z_R Z D tc ad hF H → z_ag n0 ad0 ad → n0 ≤ hF.length → va_S (fun q => Z ≤ q) s.heap H locs → H[q9]? = some ce → ce.vm = .none → s.vm.findClass E = some ce.cls → cells ≤ C → slots ≤ S → vx_W p l e R s m args below meth c H locs cells slots Q (F0 m (z_nxOf is k) ls rest) q9
/-- the run from here is the machine's, in every frame of this method -/
def z_Bd (sx : zX) (d j k : Nat) (lo : zL) (st : List Value) (h : zH) (o : zO) (hF : zH) (kc ks : Nat) : Prop :=
  ∀ (p : Program) (l : Launch) (e : Env) (R : Room) (s : State) (m : MethodId) (args : Array Value) (below : List Frame) (meth : Method) (c : Code) (Z : Nat) (D : va_G) (tc : Nat → ClassId) (adK adV : Nat → Nat) (sb : Nat) (M : zMi) (cs : List zI) (is : List zJ) (hs : List zHd) (ad0 : Nat → Nat) (n0 C S : Nat) (Q : State → Prop),
    z_ms[j]? = some M → z_cs[j]? = some cs → z_is[j]? = some is → z_hs[j]? = some hs → z_Fr p s m args meth c M → z_K l Z D tc adK adV sb sx s → z_A0 adK sb ad0 → z_Rm R d C S → z_HR p l e R s m args below meth c Z D tc M cs is hs ad0 n0 C S Q d o hF → z_HX p l e R s m args below meth c Z D tc is hs ad0 n0 C S Q o hF →
    z_W p l e R s m args below meth c Z D tc M (z_nxOf is) ad0 n0 C S Q k lo st h kc ks
theorem z_lgl (ad : Nat → Nat) : ∀ vs : List Value, (lg_sl (vs.map (z_tr ad))).length = (lg_sl vs).length
  | [] => rfl
  | v :: vs => by
    have ih := z_lgl ad vs
    unfold lg_sl at ih ⊢
    rw [List.map_cons, List.flatMap_cons, List.flatMap_cons, List.length_append, List.length_append, ih, z_tr_cat]
    by_cases h : v.category = 2
    · rw [if_pos h, if_pos h]; rfl
    · rw [if_neg h, if_neg h]; rfl
theorem z_xn_fit : ∀ n ∈ z_xn, Bundle.fit n = true := by decide +kernel
theorem z_R.grown {Z : Nat} {D : va_G} {tc : Nat → ClassId} {ad : Nat → Nat} {h : zH} {H H1 : Heap} (hR : z_R Z D tc ad h H) (hk : ∀ q : Nat, q < H.size → H1[q]? = H[q]?) : z_R Z D tc ad h H1 := ⟨hR.1.kept (fun k x hx => hk x.1 ((hR.1 k x hx).lt)), hR.2⟩
set_option maxHeartbeats 4000000 in
/-- a method's own ends: returns and throws -/
theorem z_ends {p : Program} {l : Launch} {e : Env} {R : Room} {s : State} {m : MethodId} {args : Array Value} {below : List Frame} {meth : Method} {c : Code} {Z : Nat} {D : va_G} {tc : Nat → ClassId} {adK adV : Nat → Nat} {sb : Nat} {sx : zX} {M : zMi} {cs : List zI} {is : List zJ} {hs : List zHd} {ad0 : Nat → Nat} {n0 C S d : Nat} {o : zO} {hF : zH}
    (hFr : z_Fr p s m args meth c M) (hK : z_K l Z D tc adK adV sb sx s) (hA : z_A0 adK sb ad0) (hR : z_Rm R d C S) (hhs : M.2.2.2.2.2 = hs.map (fun x => (x.1, x.2.1, x.2.2.1, x.2.2.2.1))) : z_HR p l e R s m args below meth c Z D tc M cs is hs ad0 n0 C S (vx_MQ below (z_Qm Z D tc ad0 n0 hF o) (z_Xm Z D tc ad0 n0 hF o) args s C S (fun q => Z ≤ q)) d o hF := by
  intro k i q lo st x y hi hq hck hfin
  obtain ⟨hx, hb, hml, hr, hown, hts, hlocks, htab, hnm⟩ := hFr
  have hnx : z_nxOf is k = q.1 := by unfold z_nxOf; rw [hq]; rfl
  intro ad H locs ls cells slots q1 q2 q3 q4 q5 q6 q7 q8 q9
  rw [hnx]
  unfold z_ckA at hck
  rw [Bool.or_eq_true, Bool.and_eq_true] at hck
  unfold z_fin at hfin
  split at hfin
  · next r hi1 =>
    split at hfin
    case h_2 => cases hfin
    next ty hty =>
    by_cases hn : narrow ty (.int r) = .int r
    case neg => rw [if_neg hn] at hfin; cases hfin
    rw [if_pos hn] at hfin
    simp only [Option.some.injEq, Prod.mk.injEq] at hfin
    obtain ⟨rfl, rfl, rfl⟩ := hfin
    rcases hck with h99 | ⟨hd, hck⟩
    · rw [decide_eq_true_eq, hi1] at h99; cases h99
    have hd := of_decide_eq_true hd
    rw [z_ckB50 hi1] at hck
    split at hck
    case h_2 => cases hck
    next hins =>
    rw [hins, of_decide_eq_true hck] at hd
    subst q8; subst q9
    exact vx_ret (W.zret hx hb (hr.trans hty) hn (fun t ht _ => ⟨_, rfl, ad, q2, rfl, by rw [ht]; exact q1, q3, fun w hw => by cases hw; exact z_okV_int _ _, q4.F ht⟩) q4.2.2 hd)
  · next r hi1 =>
    simp only [Option.some.injEq, Prod.mk.injEq] at hfin
    obtain ⟨rfl, rfl, rfl⟩ := hfin
    rcases hck with h99 | ⟨hd, hck⟩
    · rw [decide_eq_true_eq, hi1] at h99; cases h99
    have hd := of_decide_eq_true hd
    rw [z_ckB51 hi1] at hck
    split at hck
    case h_2 => cases hck
    next hins =>
    rw [Bool.and_eq_true] at hck
    rw [hins, of_decide_eq_true hck.1] at hd
    subst q8; subst q9
    exact vx_ret (W.lret hx hb (hr.trans (of_decide_eq_true hck.2)) (fun t ht _ => ⟨_, rfl, ad, q2, rfl, by rw [ht]; exact q1, q3, fun w hw => by cases hw; exact z_okV_long _ _, q4.F ht⟩) q4.2.2 hd)
  · next r hi1 =>
    simp only [Option.some.injEq, Prod.mk.injEq] at hfin
    obtain ⟨rfl, rfl, rfl⟩ := hfin
    rcases hck with h99 | ⟨hd, hck⟩
    · rw [decide_eq_true_eq, hi1] at h99; cases h99
    have hd := of_decide_eq_true hd
    rw [z_ckB52 hi1] at hck
    split at hck
    case h_2 => cases hck
    next hins =>
    rw [Bool.and_eq_true] at hck
    rw [hins, of_decide_eq_true hck.1] at hd
    subst q8; subst q9
    have hck2 := hck.2
    split at hck2
    · next nmr hrt =>
      exact vx_ret (W.aret hx hb (hr.trans hrt) (Or.inl ⟨_, rfl⟩) (Or.inr ⟨_, rfl⟩) (fun t ht _ => ⟨_, rfl, ad, q2, rfl, by rw [ht]; exact q1, q3, fun w hw => by cases hw; exact z_ok1 q7, q4.F ht⟩) q4.2.2 hd)
    · next nmr hrt =>
      exact vx_ret (W.aret hx hb (hr.trans hrt) (Or.inr ⟨_, rfl⟩) (Or.inr ⟨_, rfl⟩) (fun t ht _ => ⟨_, rfl, ad, q2, rfl, by rw [ht]; exact q1, q3, fun w hw => by cases hw; exact z_ok1 q7, q4.F ht⟩) q4.2.2 hd)
    · cases hck2
  · next hi1 =>
    simp only [Option.some.injEq, Prod.mk.injEq] at hfin
    obtain ⟨rfl, rfl, rfl⟩ := hfin
    rcases hck with h99 | ⟨hd, hck⟩
    · rw [decide_eq_true_eq, hi1] at h99; cases h99
    have hd := of_decide_eq_true hd
    rw [z_ckB53 hi1] at hck
    split at hck
    case h_2 => cases hck
    next hins =>
    rw [Bool.and_eq_true] at hck
    rw [hins, of_decide_eq_true hck.1] at hd
    subst q8; subst q9
    exact vx_ret (W.vret hx hb (hr.trans (of_decide_eq_true hck.2)) (fun t ht _ => ⟨_, rfl, ad, q2, rfl, by rw [ht]; exact q1, q3, (fun w hw => by cases hw), q4.F ht⟩) q4.2.2 hd)
  · next st9 x8 st8 hi1 =>
    by_cases hc : 6 ≤ d ∧ z_cat st9 ≤ 8
    case neg => rw [if_neg hc] at hfin; cases hfin
    rw [if_pos hc] at hfin
    simp only [Option.some.injEq, Prod.mk.injEq] at hfin
    obtain ⟨rfl, rfl, rfl⟩ := hfin
    rcases hck with h99 | ⟨hd, hck⟩
    · rw [decide_eq_true_eq, hi1] at h99; cases h99
    have hd := of_decide_eq_true hd
    rw [z_ckB62 hi1] at hck
    split at hck
    case h_2 => cases hck
    next ik cls ic sq hins hcls hic hsq =>
    simp only [Bool.and_eq_true, Bool.or_eq_true, decide_eq_true_eq] at hck
    obtain ⟨⟨⟨⟨⟨⟨⟨c1, c2⟩, c3⟩, c4⟩, c5⟩, c6⟩, c7⟩, c8⟩ := hck
    rw [hins, c3] at hd
    obtain ⟨ix, rx, ⟨x0, x1, x2, x5⟩, f1, f2, f3, f4⟩ := z_xf i.2.1 cls ic hcls hic
    have htab0 : ∀ z ∈ c.exceptionTable.toList, covers z (q.1 + 9) = false := by
      rw [htab, hhs, c2]
      intro z hz
      cases hz
    have htab1 : ∀ z ∈ c.exceptionTable.toList, covers z (q.1 + 10) = false := by
      rw [htab, hhs, c2]
      intro z hz
      cases hz
    have hat : ∀ w ∈ z_atX M.1 ic cls ix rx z_xn, w.before args s = true := by
      rw [c1]
      refine vx_hat (fun w hw => hts w (f1 w hw)) f2 (fun w hw => ?_)
      refine va_Nw.use ?_ (hK.2.2.2.2.2.2.2.2.2.2.2.2.2.2 w hw)
      simp only [z_xw, List.mem_cons, List.not_mem_nil, or_false] at hw
      rcases hw with rfl | rfl | rfl | rfl | rfl | rfl | rfl | rfl <;> rfl
    have hgood : ∀ w ∈ Cond.classLink M.1 ik cls :: Cond.initialized cls :: z_atX M.1 ic cls ix rx z_xn, vx_ot w = true := by
      intro w hw
      rcases List.mem_cons.mp hw with rfl | hw
      · unfold vx_ot; rw [(List.mem_filter.mp (z_w_in c4)).2, Bool.or_true]
      rcases List.mem_cons.mp hw with rfl | hw
      · unfold vx_ot; rw [(List.mem_filter.mp (z_w_in c5)).2, Bool.or_true]
      · rw [c1] at hw; exact f3 w hw
    have hstr := (hK.2.2.1 i.2.2.1 sq hsq).1
    rw [c6] at hstr
    obtain ⟨r1, r2, r3, r4⟩ := hR
    have hz := z_cat_tr ad st9
    have hxc : ∀ t : State, s.vm.Alike t.vm → H.size ≤ t.heap.size → (∀ q : Nat, q < H.size → t.heap[q]? = H[q]?) → z_Xm Z D tc ad0 n0 hF (.inr i.2.1) cls s t := by
      intro t _ g1 g2
      refine ⟨_, rfl, hcls, ad, q2, q1.grown g2, q3, Nat.le_trans q4.1 g1, fun q0 k1 k2 => ?_⟩
      rw [g2 q0 (Nat.lt_of_lt_of_le k1 q4.1)]
      exact q4.2.1 q0 k1 k2
    rcases c8 with ⟨⟨d4, d6⟩, d9⟩ | ⟨⟨d4, d7⟩, d10⟩
    · exact z_throwX hx hb hK.2.2.2.2.2.2.2.2.2.1 x0 x1 x2 x5 hown f4 z_xn_fit (hts _ (z_w_in c4)) (hts _ (z_w_in c5)) hstr hat hgood hK.2.2.2.1 hK.2.2.2.2.1 q4 (by rw [hml]; exact q5.1) hd c7 d4 d6 d9 htab0 (by show 2 + 3 < _; omega) (by show _ + (13 * (2 + 1) + 43) ≤ _; omega) (by omega) (by omega) hlocks hxc q4.2.2 (by omega) (by omega)
    · exact z_throwXW hx hb hK.2.2.2.2.2.2.2.2.2.1 x0 x1 x2 x5 hown f4 z_xn_fit (hts _ (z_w_in c4)) (hts _ (z_w_in c5)) hstr hat hgood hK.2.2.2.1 hK.2.2.2.2.1 q4 (by rw [hml]; exact q5.1) hd c7 d4 d7 d10 htab1 (by show 2 + 3 < _; omega) (by show _ + (13 * (2 + 1) + 43) ≤ _; omega) (by omega) (by omega) hlocks hxc q4.2.2 (by omega) (by omega)
  · cases hfin
theorem z_outs {p : Program} {l : Launch} {e : Env} {R : Room} {s : State} {m : MethodId} {args : Array Value} {below : List Frame} {meth : Method} {c : Code} {Z : Nat} {D : va_G} {tc : Nat → ClassId} {M : zMi} {is : List zJ} {hs : List zHd} {ad0 : Nat → Nat} {n0 C S : Nat} {o : zO} {hF : zH}
    (hFr : z_Fr p s m args meth c M) (hhs : M.2.2.2.2.2 = hs.map (fun x => (x.1, x.2.1, x.2.2.1, x.2.2.2.1))) : z_HX p l e R s m args below meth c Z D tc is hs ad0 n0 C S (vx_MQ below (z_Qm Z D tc ad0 n0 hF o) (z_Xm Z D tc ad0 n0 hF o) args s C S (fun q => Z ≤ q)) o hF := by
  intro x E ho hE hh k ad H locs ls cells slots rest q9 ce q1 q2 q3 q4 g1 g2 g3 g4 g5
  obtain ⟨hx, hb, hml, hr, hown, hts, hlocks, htab, hnm⟩ := hFr
  refine vx_out (fun z hz => ?_) hlocks g1 g2 g3 (fun t ht _ => ⟨x, ho, hE, ad, q2, by rw [ht]; exact q1, q3, q4.F ht⟩) q4.2.2 g4 g5
  rw [htab, hhs, hh] at hz
  cases hz
end
section
/-! a method's contract out of its run -/
theorem z_met {sx : zX} {d j : Nat} {as : List Value} {h : zH} {o : zO} {h' : zH} {kc ks : Nat} (hB : z_Bd sx d j 0 (lv_args 0 as) [] h o h' kc ks) {M : zMi} {cs : List zI} {is : List zJ} {hs : List zHd} (hM : z_ms[j]? = some M) (hcs : z_cs[j]? = some cs) (his : z_is[j]? = some is) (hhs : z_hs[j]? = some hs) (hck : z_ckM M cs is hs = true) (hw : (lg_sl as).length ≤ M.2.2.2.1) (hh : M.2.2.2.2.2 = [])
    (l : Launch) (Z : Nat) (D : va_G) (tc : Nat → ClassId) (adK adV : Nat → Nat) (sb : Nat) (ad : Nat → Nat) (hA : z_A0 adK sb ad) (hok : ∀ v ∈ as, z_okV h.length v) :
    vx_Met l M.2.1 (.code M.2.1 M.2.2.1 M.2.2.2.1 M.2.2.2.2.1 :: z_T) (z_rm d kc ks) (z_Pm l Z D tc adK adV sb sx ad h as) (z_Qm Z D tc ad h.length h' o) (z_Xm Z D tc ad h.length h' o) kc ks (fun q => Z ≤ q) := by
  unfold z_ckM at hck
  simp only [Bool.and_eq_true, decide_eq_true_eq] at hck
  obtain ⟨⟨⟨⟨⟨c1, c2⟩, c3⟩, c4⟩, c5⟩, c6⟩ := hck
  refine vx_ofW (cc := M.2.2.1) (maxL := M.2.2.2.1) (ret := M.2.2.2.2.1) (by rw [c1]; exact c2) rfl ?_
  intro p e s m args below meth c s₁ B hml hnt hv
  obtain ⟨rfl, hK, hR⟩ := hv
  have hts0 := atoms_spec B.pre
  have htab : c.exceptionTable.toList = tableOf M.2.2.2.2.2 := by
    rw [hh]
    cases ht : c.exceptionTable.toList with
    | nil => rfl
    | cons x r => exact (hnt x (by rw [ht]; exact List.mem_cons_self)).elim
  have hFr : z_Fr p s m (as.map (z_tr ad)).toArray meth c M := ⟨B.exec, B.bytes, hml, B.returns, by have h9 := findClass_of_methodNamed B.named; rw [c1] at h9; exact h9, fun w hw => hts0 w (List.mem_cons_of_mem _ hw), B.notSynchronized, htab, (name_of_methodNamed B.named B.method).1⟩
  have hRm : z_Rm (headSpec (.code M.2.1 M.2.2.1 M.2.2.2.1 M.2.2.2.2.1 :: z_T) (z_rm d kc ks)).room d kc ks := ⟨Nat.le_refl _, Nat.le_refl _, Nat.le_refl _, Nat.le_refl _⟩
  have hl := lv_entry (as.map (z_tr ad)) (n := M.2.2.2.1) (by rw [z_lgl]; exact hw)
  rw [lg_entry_eq]
  rw [z_args_tr] at hl
  have kk := hB p l e _ s m _ below meth c Z D tc adK adV sb M cs is hs ad h.length kc ks _ hM hcs his hhs hFr hK hA hRm (z_ends hFr hK hA hRm c4) (z_outs hFr c4) ad s.heap [] _ 0 0 hR z_ag.rf (Nat.le_refl _) va_S.rf hl (z_args_ok 0 as hok) (fun _ h9 => by cases h9) (Nat.zero_add _) (Nat.zero_add _)
  rw [c3] at kk
  exact kk
theorem z_metH {sx : zX} {d j : Nat} {as : List Value} {h : zH} {o : zO} {h' : zH} {kc ks : Nat} (hB : z_Bd sx d j 0 (lv_args 0 as) [] h o h' kc ks) {M : zMi} {cs : List zI} {is : List zJ} {hs : List zHd} (hM : z_ms[j]? = some M) (hcs : z_cs[j]? = some cs) (his : z_is[j]? = some is) (hhs : z_hs[j]? = some hs) (hck : z_ckM M cs is hs = true) (hw : (lg_sl as).length ≤ M.2.2.2.1)
    (l : Launch) (Z : Nat) (D : va_G) (tc : Nat → ClassId) (adK adV : Nat → Nat) (sb : Nat) (ad : Nat → Nat) (hA : z_A0 adK sb ad) (hok : ∀ v ∈ as, z_okV h.length v) :
    vx_Met l M.2.1 (.codeWith M.2.1 M.2.2.1 M.2.2.2.1 M.2.2.2.2.1 M.2.2.2.2.2 :: z_T) (z_rm d kc ks) (z_Pm l Z D tc adK adV sb sx ad h as) (z_Qm Z D tc ad h.length h' o) (z_Xm Z D tc ad h.length h' o) kc ks (fun q => Z ≤ q) := by
  unfold z_ckM at hck
  simp only [Bool.and_eq_true, decide_eq_true_eq] at hck
  obtain ⟨⟨⟨⟨⟨c1, c2⟩, c3⟩, c4⟩, c5⟩, c6⟩ := hck
  refine vx_ofWH (cc := M.2.2.1) (maxL := M.2.2.2.1) (ret := M.2.2.2.2.1) (hh := M.2.2.2.2.2) (by rw [c1]; exact c2) rfl ?_
  intro p e s m args below meth c s₁ B hml hv
  obtain ⟨rfl, hK, hR⟩ := hv
  have hts0 := atoms_spec B.pre
  have htab : c.exceptionTable.toList = tableOf M.2.2.2.2.2 := vx_table (x := M.2.1) B (hts0 _ List.mem_cons_self)
  have hFr : z_Fr p s m (as.map (z_tr ad)).toArray meth c M := ⟨B.exec, B.bytes, hml, B.returns, by have h9 := findClass_of_methodNamed B.named; rw [c1] at h9; exact h9, fun w hw => hts0 w (List.mem_cons_of_mem _ hw), B.notSynchronized, htab, (name_of_methodNamed B.named B.method).1⟩
  have hRm : z_Rm (headSpec (.codeWith M.2.1 M.2.2.1 M.2.2.2.1 M.2.2.2.2.1 M.2.2.2.2.2 :: z_T) (z_rm d kc ks)).room d kc ks := ⟨Nat.le_refl _, Nat.le_refl _, Nat.le_refl _, Nat.le_refl _⟩
  have hl := lv_entry (as.map (z_tr ad)) (n := M.2.2.2.1) (by rw [z_lgl]; exact hw)
  rw [lg_entry_eq]
  rw [z_args_tr] at hl
  have kk := hB p l e _ s m _ below meth c Z D tc adK adV sb M cs is hs ad h.length kc ks _ hM hcs his hhs hFr hK hA hRm (z_ends hFr hK hA hRm c4) (z_outs hFr c4) ad s.heap [] _ 0 0 hR z_ag.rf (Nat.le_refl _) va_S.rf hl (z_args_ok 0 as hok) (fun _ h9 => by cases h9) (Nat.zero_add _) (Nat.zero_add _)
  rw [c3] at kk
  exact kk
end
section
/-! calls -/
section ZCont
variable {p : Program} {l : Launch} {e : Env} {R : Room} {s : State} {m : MethodId} {args : Array Value} {below : List Frame} {meth : Method} {c : Code} {Z : Nat} {D : va_G} {tc : Nat → ClassId} {adK adV : Nat → Nat} {sb : Nat} {sx : zX} {M : zMi} {nx : Nat → Nat} {ad0 : Nat → Nat} {n0 C S d : Nat} {Q : State → Prop} {k : Nat} {lo : zL} {st : List Value} {h : zH} {h' : zH} {kc ks x y : Nat} {ad ad' : Nat → Nat} {H H1 : Heap} {locs locs1 : List Loc} {ls : Array Slot} {cells slots : Nat} {rest : List Value} {v : Option Value}
theorem z_cont (hW : z_W p l e R s m args below meth c Z D tc M nx ad0 n0 C S Q (k + 1) lo (v.toList ++ rest) h' kc ks) (hn : nx (k + 1) = nx k + 3) (q2 : z_ag n0 ad0 ad) (q3 : n0 ≤ h.length) (q5 : lv_has ls M.2.2.2.1 (z_tl ad lo)) (q6 : ∀ q ∈ lo, z_okV h.length q.2) (q7 : ∀ w ∈ rest, z_okV h.length w) (q8 : cells + (kc + x) = C) (q9 : slots + (ks + y) = S)
    (g1 : z_ag h.length ad ad') (g2 : z_R Z D tc ad' h' H1) (g3 : h.length ≤ h'.length) (g4 : va_S (fun q => Z ≤ q) s.heap H1 locs1) (g5 : ∀ w, v = some w → z_okV h'.length w) : W p l e R s m args below meth c H1 locs1 (cells + x) (slots + y) Q (F0 m (nx k + 3) ls ((v.map (z_tr ad')).toList ++ rest.map (z_tr ad))) := by
  have kk := hW ad' H1 locs1 ls (cells + x) (slots + y) g2 (q2.trans g1 q3) (by omega) g4 (by rw [z_tl_ag g1 q6]; exact q5) (fun q hq => (q6 q hq).mono g3) (fun w hw => by
    rcases List.mem_append.mp hw with z | z
    · cases v with
      | none => cases z
      | some w9 => rw [Option.toList_some, List.mem_singleton] at z; rw [z]; exact g5 w9 rfl
    · exact (q7 w z).mono g3) (by omega) (by omega)
  rw [hn, List.map_append, z_st_ag g1 q7] at kk
  cases v with
  | none => exact kk
  | some w9 => exact kk
end ZCont
theorem z_find {hs : List zHd} {E : Nat} {q : zHd} (h : hs.find? (fun q => q.2.2.2.2.1 == E) = some q) : q.2.2.2.2.1 = E ∧ ∃ pre suf, hs = pre ++ q :: suf ∧ ∀ z ∈ pre, z.2.2.2.2.1 ≠ E := by
  obtain ⟨h1, pre, suf, h2, h3⟩ := List.find?_eq_some_iff_append.mp h
  refine ⟨by simpa using h1, pre, suf, h2, fun z hz => ?_⟩
  have := h3 z hz
  simpa using this
theorem z_exc_in {x : Nat} {E : String} (h : z_excs[x]? = some E) : E ∈ z_excs := List.mem_of_getElem? h
theorem z_exc_ne {x y : Nat} {E F : String} (h1 : z_excs[x]? = some E) (h2 : z_excs[y]? = some F) (h : x ≠ y) : E ≠ F := by
  have hnd : ∀ x, x < 5 → ∀ y, y < 5 → x ≠ y → z_excs[x]? ≠ z_excs[y]? := by decide
  intro e
  subst e
  have l1 : x < 5 := (List.getElem?_eq_some_iff.mp h1).1
  have l2 : y < 5 := (List.getElem?_eq_some_iff.mp h2).1
  exact hnd x l1 y l2 h (h1.trans h2.symm)
theorem z_castE {x : Nat} {E : String} (h : z_excs[x]? = some E) : Cond.castable E E ∈ z_xw := by
  have : ∀ E ∈ z_excs, Cond.castable E E ∈ z_xw := by decide +kernel
  exact this E (z_exc_in h)
set_option maxHeartbeats 4000000 in
/-- a thrown exception that this method catches -/
theorem z_caught {p : Program} {l : Launch} {e : Env} {R : Room} {s : State} {m : MethodId} {args : Array Value} {below : List Frame} {meth : Method} {c : Code} {Z : Nat} {D : va_G} {tc : Nat → ClassId} {adK adV : Nat → Nat} {sb : Nat} {sx : zX} {M : zMi} {is : List zJ} {hs : List zHd} {ad0 : Nat → Nat} {n0 C S d : Nat} {Q : State → Prop} {k : Nat} {lo : zL} {h : zH} {h' : zH} {kc ks x y : Nat} {ad ad' : Nat → Nat} {H1 : Heap} {locs1 : List Loc} {ls : Array Slot} {cells slots : Nat} {rest : List Value} {E : Nat} {cls : String} {q : zHd} {q9 : Addr} {ce : Cell}
    (hFr : z_Fr p s m args meth c M) (hK : z_K l Z D tc adK adV sb sx s) (hhs : M.2.2.2.2.2 = hs.map (fun x => (x.1, x.2.1, x.2.2.1, x.2.2.2.1))) (hck : hs.all (z_ckH M is) = true) (hcov : hs.all (fun x => decide (x.1 ≤ z_nxOf is k) && decide (z_nxOf is k < x.2.1)) = true) (hf : hs.find? (fun q => q.2.2.2.2.1 == E) = some q) (hE : z_excs[E]? = some cls)
    (hW : z_W p l e R s m args below meth c Z D tc M (z_nxOf is) ad0 n0 C S Q q.2.2.2.2.2.1 (z_drop lo q.2.2.2.2.2.2) [] h' kc ks) (q2 : z_ag n0 ad0 ad) (q3 : n0 ≤ h.length) (q5 : lv_has ls M.2.2.2.1 (z_tl ad lo)) (q6 : ∀ q ∈ lo, z_okV h.length q.2) (q8 : cells + (kc + x) = C) (q9' : slots + (ks + y) = S)
    (g1 : z_ag h.length ad ad') (g2 : z_R Z D tc ad' h' H1) (g3 : h.length ≤ h'.length) (g4 : va_S (fun q => Z ≤ q) s.heap H1 locs1) (e1 : H1[q9]? = some ce) (e2 : ce.vm = .none) (e3 : s.vm.findClass cls = some ce.cls) : vx_W p l e R s m args below meth c H1 locs1 (cells + x) (slots + y) Q (F0 m (z_nxOf is k) ls rest) q9 := by
  obtain ⟨hx, hb, hml, hr, hown, hts, hlocks, htab, hnm⟩ := hFr
  obtain ⟨hqE, pre, suf, hsp, hpre⟩ := z_find hf
  have hcovq : ∀ z ∈ hs, covers (⟨z.1, z.2.1, z.2.2.1, z.2.2.2.1⟩ : ExceptionTableEntry) (z_nxOf is k) = true := fun z hz => List.all_eq_true.mp hcov z hz
  have hH : ∀ z ∈ hs, z_ckH M is z = true := List.all_eq_true.mp hck
  have hqm : q ∈ hs := by rw [hsp]; exact List.mem_append_right _ List.mem_cons_self
  have hq := hH q hqm
  unfold z_ckH at hq
  simp only [Bool.and_eq_true, decide_eq_true_eq] at hq
  obtain ⟨⟨⟨b1, b2⟩, b3⟩, b4⟩ := hq
  split at b4
  case h_2 => cases b4
  next E9 qi hE9 hqi =>
  have hcE : E9 = cls := by rw [hqE, hE] at hE9; exact (Option.some.inj hE9).symm
  subst hcE
  simp only [Bool.and_eq_true, decide_eq_true_eq] at b4
  obtain ⟨⟨⟨b5, b6⟩, b7⟩, b8⟩ := b4
  have kk := fun ls hl => hW ad' H1 locs1 ls (cells + x) (slots + y) g2 (q2.trans g1 q3) (by omega) g4 hl (fun z hz => (q6 z (List.mem_filter.mp hz).1).mono g3) (fun _ h9 => by cases h9) (by omega) (by omega)
  have q5' : lv_has ls M.2.2.2.1 (z_tl ad' lo) := by rw [z_tl_ag g1 q6]; exact q5
  have drop : ∀ (ls' : Array Slot), lv_has ls' M.2.2.2.1 ((q.2.2.2.2.2.2, Value.ref q9) :: (z_tl ad' lo).filter (fun z => !(z.1 == q.2.2.2.2.2.2) && !(z.1 + 1 == q.2.2.2.2.2.2 && z.2.category == 2))) → lv_has ls' M.2.2.2.1 (z_tl ad' (z_drop lo q.2.2.2.2.2.2)) := by
    intro ls' h9
    refine ⟨h9.1, h9.2.1, fun z hz => h9.2.2 z (List.mem_cons_of_mem _ ?_)⟩
    have e9 : (z_tl ad' lo).filter (fun z => !(z.1 == q.2.2.2.2.2.2) && !(z.1 + 1 == q.2.2.2.2.2.2 && z.2.category == 2)) = z_tl ad' (z_drop lo q.2.2.2.2.2.2) := by
      simp only [z_tl, z_drop, List.filter_map]
      congr 1
      apply List.filter_congr
      intro z _
      simp only [Function.comp, z_tr_cat]
    rw [e9]
    exact hz
  refine vx_catch (name := E9) hown (pre.map (fun z => (⟨z.1, z.2.1, z.2.2.1, z.2.2.2.1⟩ : ExceptionTableEntry))) ⟨q.1, q.2.1, q.2.2.1, q.2.2.2.1⟩ (suf.map (fun z => (⟨z.1, z.2.1, z.2.2.1, z.2.2.2.1⟩ : ExceptionTableEntry))) ?_ ?_ (hcovq q hqm) (by show q.2.2.2.1 ≠ 0; omega) (hts _ (z_mem_in b5)) (va_Nw.use rfl (hK.2.2.2.2.2.2.2.2.2.2.2.2.2.2 _ (z_castE hE))) e1 e2 e3 ?_
  · rw [htab, hhs, hsp]
    simp only [tableOf, List.map_append, List.map_cons, List.map_map]
    rfl
  · intro z hz
    obtain ⟨z0, hz0, rfl⟩ := List.mem_map.mp hz
    have hz1 : z0 ∈ hs := by rw [hsp]; exact List.mem_append_left _ hz0
    have hz2 := hH z0 hz1
    unfold z_ckH at hz2
    simp only [Bool.and_eq_true, decide_eq_true_eq] at hz2
    obtain ⟨⟨⟨u1, u2⟩, u3⟩, u4⟩ := hz2
    split at u4
    case h_2 => cases u4
    next F9 qj hF9 hqj =>
    simp only [Bool.and_eq_true, decide_eq_true_eq] at u4
    refine Or.inr ⟨by show z0.2.2.2.1 ≠ 0; omega, F9, hts _ (z_mem_in u4.1.1.1), ?_⟩
    exact hK.2.2.2.2.2.2.2.2.2.2.2.2.2.1 _ (z_exc_in hE) _ (z_exc_in hF9) (z_exc_ne hE hF9 (fun e9 => hpre z0 hz0 e9.symm))
  · show W p l e R s m args below meth c H1 locs1 (cells + x) (slots + y) Q (F0 m q.2.2.1 ls [.ref q9])
    rw [← b6]
    split at b8
    · next va hva =>
      simp only [Bool.and_eq_true, decide_eq_true_eq] at b8
      obtain ⟨⟨rfl, b9⟩, b10⟩ := b8
      rw [hva, b9] at b7
      refine lv_astore hx hb b7 q5' b2 rfl (fun ls' hl' => ?_)
      have k9 := kk ls' (drop ls' hl')
      rw [b10] at k9
      exact k9
    · next va hva =>
      simp only [Bool.and_eq_true, decide_eq_true_eq] at b8
      obtain ⟨⟨b8a, b9⟩, b10⟩ := b8
      rw [hva, b9] at b7
      refine lv_astore_n hx hb b7 b8a q5' b2 rfl (fun ls' hl' => ?_)
      have k9 := kk ls' (drop ls' hl')
      rw [b10] at k9
      exact k9
    · cases b8
end
section
/-! the calls of the abstract machine are the machine's -/
theorem z_A0.ag {adK ad0 ad : Nat → Nat} {sb n0 : Nat} (hA : z_A0 adK sb ad0) (h : z_ag n0 ad0 ad) : z_A0 adK sb ad :=
  ⟨fun k hk => by rw [h _ (Or.inr (Nat.le_add_right _ _))]; exact hA.1 k hk, by rw [h zS (Or.inr (by decide))]; exact hA.2⟩
theorem z_cal_in {i : zI} {d : Nat} {st : List Value} {h : zH} {j : Nat} {as rest : List Value} (hc : z_cal i d st h = some (j, as, rest)) : z_cal0 i d st h = some (j, as, rest) ∧ ∃ M', z_ms[j]? = some M' ∧ (lg_sl as).length ≤ M'.2.2.2.1 := by
  unfold z_cal at hc
  split at hc
  · next a as9 rest9 h0 =>
    split at hc
    · next M' hM' =>
      by_cases hl : (lg_sl as9).length ≤ M'.2.2.2.1
      · rw [if_pos hl] at hc
        simp only [Option.some.injEq, Prod.mk.injEq] at hc
        obtain ⟨rfl, rfl, rfl⟩ := hc
        exact ⟨h0, M', hM', hl⟩
      · rw [if_neg hl] at hc; cases hc
    · cases hc
  · cases hc
theorem z_st {st : List Value} {n : Nat} {v : Value} {rest : List Value} (h : st.drop n = v :: rest) : st = st.take n ++ v :: rest := by rw [← h]; exact (List.take_append_drop n st).symm
theorem z_cal54 {i : zI} {d : Nat} {st : List Value} {h : zH} {j : Nat} {as rest : List Value} (hi : i.1 = 54) (hc : z_cal0 i d st h = some (j, as, rest)) : j = i.2.1 ∧ 0 < d ∧ i.2.2.1 ≤ st.length ∧ z_cat rest ≤ 8 ∧ ∃ r ci fs, as = .ref r :: (st.take i.2.2.1).reverse ∧ st = st.take i.2.2.1 ++ .ref r :: rest ∧ h[r]? = some (.inr (ci, fs)) ∧ (ci : Int) = i.2.2.2 := by
  unfold z_cal0 at hc
  by_cases hd : d = 0 ∨ st.length < i.2.2.1
  · rw [if_pos hd] at hc; cases hc
  rw [if_neg hd] at hc
  have hc2 : (match st.drop i.2.2.1 with
    | .ref r :: rest => (match h[r]? with
      | some (.inr (c, _)) => if (c : Int) = i.2.2.2 ∧ z_cat rest ≤ 8 then some (i.2.1, .ref r :: (st.take i.2.2.1).reverse, rest) else none
      | _ => none)
    | _ => none) = some (j, as, rest) := by
    rw [hi] at hc; exact hc
  split at hc2
  case h_2 => cases hc2
  next r rest9 hdr =>
  split at hc2
  case h_2 => cases hc2
  next ci fs hr =>
  by_cases h9 : (ci : Int) = i.2.2.2 ∧ z_cat rest9 ≤ 8
  case neg => rw [if_neg h9] at hc2; cases hc2
  rw [if_pos h9] at hc2
  simp only [Option.some.injEq, Prod.mk.injEq] at hc2
  obtain ⟨rfl, rfl, rfl⟩ := hc2
  exact ⟨rfl, by omega, by omega, h9.2, r, ci, fs, rfl, z_st hdr, hr, h9.1⟩
theorem z_cal5x {i : zI} {d : Nat} {st : List Value} {h : zH} {j : Nat} {as rest : List Value} (hi : i.1 = 55 ∨ i.1 = 72) (hc : z_cal0 i d st h = some (j, as, rest)) : j = i.2.1 ∧ 0 < d ∧ i.2.2.1 ≤ st.length ∧ z_cat rest ≤ 8 ∧ as = (st.take i.2.2.1).reverse ∧ rest = st.drop i.2.2.1 := by
  unfold z_cal0 at hc
  by_cases hd : d = 0 ∨ st.length < i.2.2.1
  · rw [if_pos hd] at hc; cases hc
  rw [if_neg hd] at hc
  have hc2 : (if z_cat (st.drop i.2.2.1) ≤ 8 then some (i.2.1, (st.take i.2.2.1).reverse, st.drop i.2.2.1) else none) = some (j, as, rest) := by
    rcases hi with hi | hi <;> (rw [hi] at hc; exact hc)
  by_cases h9 : z_cat (st.drop i.2.2.1) ≤ 8
  case neg => rw [if_neg h9] at hc2; cases hc2
  rw [if_pos h9] at hc2
  simp only [Option.some.injEq, Prod.mk.injEq] at hc2
  obtain ⟨rfl, rfl, rfl⟩ := hc2
  exact ⟨rfl, by omega, by omega, h9, rfl, rfl⟩
theorem z_cal56 {i : zI} {d : Nat} {st : List Value} {h : zH} {j : Nat} {as rest : List Value} (hi : i.1 = 56 ∨ i.1 = 73) (hc : z_cal0 i d st h = some (j, as, rest)) : j = i.2.1 ∧ 0 < d ∧ i.2.2.1 ≤ st.length ∧ z_cat rest ≤ 8 ∧ ∃ r, as = .ref r :: (st.take i.2.2.1).reverse ∧ st = st.take i.2.2.1 ++ .ref r :: rest := by
  unfold z_cal0 at hc
  by_cases hd : d = 0 ∨ st.length < i.2.2.1
  · rw [if_pos hd] at hc; cases hc
  rw [if_neg hd] at hc
  have hc2 : (match st.drop i.2.2.1 with
    | .ref r :: rest => if z_cat rest ≤ 8 then some (i.2.1, .ref r :: (st.take i.2.2.1).reverse, rest) else none
    | _ => none) = some (j, as, rest) := by
    rcases hi with hi | hi <;> (rw [hi] at hc; exact hc)
  split at hc2
  case h_2 => cases hc2
  next r rest9 hdr =>
  by_cases h9 : z_cat rest9 ≤ 8
  case neg => rw [if_neg h9] at hc2; cases hc2
  rw [if_pos h9] at hc2
  simp only [Option.some.injEq, Prod.mk.injEq] at hc2
  obtain ⟨rfl, rfl, rfl⟩ := hc2
  exact ⟨rfl, by omega, by omega, h9, r, rfl, z_st hdr⟩
theorem z_yok_in {y : MethodName} {n : Nat} (h : z_yok y n = true) : y.cls ≠ "java/lang/invoke/MethodHandle" ∧ y.cls ≠ "java/lang/invoke/VarHandle" ∧ (parseMethodDescriptor y.desc).map (fun d => d.parameters.length) = some n := of_decide_eq_true h
theorem z_goodC {w : Cond} (h : w ∈ z_T) : GoodIn z_T (w :: z_T) := z_good (fun w' hw => by
    rcases List.mem_cons.mp hw with rfl | h9
    · exact h
    · exact h9)
theorem z_cwB {R : Room} {s : State} {args : Array Value} {own : String} {index maxL mc ms : Nat} {y : MethodName} {bytes : ByteArray} {ret : Option FieldType} {rm : Room} (n : Nat) (ht : ∀ w ∈ z_T, w.before args s = true) (h1 : Cond.methodLink own index y ∈ z_T) (h3 : Cond.initialized y.cls ∈ z_T) (h4 : Cond.code y bytes maxL ret ∈ z_T) (hrc : rm.cells = mc) (hrs : rm.slots = ms)
    (hd : z_yok y n = true) (hR : rm.frames + 1 ≤ R.frames ∧ 8 + (maxL + 11) + rm.locals ≤ R.locals) : CallB R s args own index y bytes maxL ret (.code y bytes maxL ret :: z_T) rm mc ms n :=
  callB_of n ht (z_goodC h4) rfl hrc hrs (ht _ h3) (ht _ h1) (z_yok_in hd) hR
theorem z_rmok {R : Room} {d C S kc ks maxL : Nat} (hR : z_Rm R d C S) (hd : 0 < d) (hm : maxL ≤ 41) : (z_rm (d - 1) kc ks).frames + 1 ≤ R.frames ∧ 8 + (maxL + 11) + (z_rm (d - 1) kc ks).locals ≤ R.locals := by
  obtain ⟨h1, h2, -, -⟩ := hR
  constructor
  · show d - 1 + 1 ≤ R.frames; omega
  · show 8 + (maxL + 11) + 60 * (d - 1) ≤ R.locals; omega
theorem z_asok {st : List Value} {n : Nat} {v : Value} {rest : List Value} {k : Nat} (hst : st = st.take n ++ v :: rest) (h : ∀ w ∈ st, z_okV k w) : (∀ w ∈ v :: (st.take n).reverse, z_okV k w) ∧ ∀ w ∈ rest, z_okV k w := by
  rw [hst] at h
  refine ⟨fun w hw => ?_, fun w hw => h w (List.mem_append_right _ (List.mem_cons_of_mem _ hw))⟩
  rcases List.mem_cons.mp hw with rfl | hw
  · exact h _ (List.mem_append_right _ List.mem_cons_self)
  · exact h w (List.mem_append_left _ (List.mem_reverse.mp hw))
theorem z_stk {st : List Value} {n : Nat} {v : Value} {rest : List Value} (ad : Nat → Nat) (hst : st = st.take n ++ v :: rest) : st.map (z_tr ad) = (((st.take n).reverse).map (z_tr ad)).reverse ++ z_tr ad v :: rest.map (z_tr ad) := by
  rw [List.map_reverse, List.reverse_reverse]
  conv => lhs; rw [hst]
  rw [List.map_append, List.map_cons]
theorem z_stk0 {st : List Value} {n : Nat} (ad : Nat → Nat) : st.map (z_tr ad) = (((st.take n).reverse).map (z_tr ad)).reverse ++ (st.drop n).map (z_tr ad) := by
  rw [List.map_reverse, List.reverse_reverse, ← List.map_append, List.take_append_drop]
theorem z_lens {st : List Value} {n : Nat} (ad : Nat → Nat) (h : n ≤ st.length) : (((st.take n).reverse).map (z_tr ad)).length = n := by
  rw [List.length_map, List.length_reverse, List.length_take]; omega
section ZCalls
variable {p : Program} {l : Launch} {e : Env} {R : Room} {s : State} {m : MethodId} {args : Array Value} {below : List Frame} {meth : Method} {c : Code} {Z : Nat} {D : va_G} {tc : Nat → ClassId} {adK adV : Nat → Nat} {sb : Nat} {sx : zX} {M : zMi} {is : List zJ} {hs : List zHd} {ad0 : Nat → Nat} {n0 C S d : Nat} {Q : State → Prop} {k : Nat} {lo : zL} {st : List Value} {h : zH} {i : zI} {q : zJ} {j' : Nat} {as rest : List Value} {oi : zO} {h1 : zH} {x1 y1 kc ks : Nat} {M' : zMi} {cs' : List zI} {is' : List zJ} {hs' : List zHd} {v : Option Value}
set_option maxHeartbeats 4000000 in
theorem z_cl54 (hFr : z_Fr p s m args meth c M) (hK : z_K l Z D tc adK adV sb sx s) (hA : z_A0 adK sb ad0) (hR : z_Rm R d C S) (hhs : M.2.2.2.2.2 = hs.map (fun x => (x.1, x.2.1, x.2.2.1, x.2.2.2.1))) (hckH : hs.all (z_ckH M is) = true) (hi1 : i.1 = 54) (hck : z_ckB M is hs i q k = true) (hd : decode M.2.2.1 q.1 = .ok (q.2.1, q.2.2.1)) (hnx : z_nxOf is k = q.1) (hcal : z_cal0 i d st h = some (j', as, rest)) (hM' : z_ms[j']? = some M') (hcs' : z_cs[j']? = some cs') (his' : z_is[j']? = some is') (hhs' : z_hs[j']? = some hs') (hck' : z_ckM M' cs' is' hs' = true) (hw : (lg_sl as).length ≤ M'.2.2.2.1)
    (hB : z_Bd sx (d - 1) j' 0 (lv_args 0 as) [] h oi h1 x1 y1)
    (hret : ∀ v, oi = .inl v → z_W p l e R s m args below meth c Z D tc M (z_nxOf is) ad0 n0 C S Q (k + 1) lo (v.toList ++ rest) h1 kc ks)
    (hthr : ∀ E, oi = .inr E → (∃ qh, hs.find? (fun q => q.2.2.2.2.1 == E) = some qh ∧ z_W p l e R s m args below meth c Z D tc M (z_nxOf is) ad0 n0 C S Q qh.2.2.2.2.2.1 (z_drop lo qh.2.2.2.2.2.2) [] h1 kc ks) ∨ (hs = [] ∧ kc = 0 ∧ ks = 0 ∧ z_HX p l e R s m args below meth c Z D tc is hs ad0 n0 C S Q (.inr E) h1)) :
    z_W p l e R s m args below meth c Z D tc M (z_nxOf is) ad0 n0 C S Q k lo st h (kc + x1) (ks + y1) := by
  obtain ⟨rfl, hd0, hn, hcat, r, ci, fs, rfl, hst, hr, hci⟩ := z_cal54 hi1 hcal
  rw [z_ckB54 hi1, hM'] at hck
  split at hck
  case h_2 => cases hck
  next idx M9 hins hM9 =>
  cases hM9
  simp only [Bool.and_eq_true, decide_eq_true_eq] at hck
  obtain ⟨⟨⟨⟨⟨⟨⟨⟨⟨⟨⟨⟨⟨c1, c2⟩, c3⟩, c4⟩, c5⟩, c6⟩, c7⟩, c8⟩, c9⟩, c10⟩, c11⟩, c12⟩, c13⟩, c14⟩ := hck
  rw [hins, c1, ← hnx] at hd
  rw [← hnx] at c2
  have hFr0 := hFr
  obtain ⟨hx, hb, hml, hr9, hown, hts, -⟩ := hFr
  intro ad H locs ls cells slots q1 q2 q3 q4 q5 q6 q7 q8 q9
  obtain ⟨ok1, ok2⟩ := z_asok hst q7
  have hMet := z_met hB hM' hcs' his' hhs' hck' hw c3 l Z D tc adK adV sb ad (hA.ag q2) ok1
  have hci2 : i.2.2.2.toNat = ci := by omega
  rw [hci2] at c5
  obtain ⟨qc, hqc, hqn⟩ : ∃ qc, vwCl[ci]? = some qc ∧ qc.1 = M'.1 := by
    cases hv : vwCl[ci]? with
    | none => rw [hv] at c5; cases c5
    | some qc => rw [hv] at c5; exact ⟨qc, rfl, Option.some.inj c5⟩
  have hrecv := va_recv (q := qc) (q0 := r) hK.2.1 q1.1 hqc (z_ws_get hr)
  rw [hqn] at hrecv
  have cw : CallW R s args M.1 M'.1 idx M'.2.1 M'.2.2.1 M'.2.2.2.1 M'.2.2.2.2.1 (.code M'.2.1 M'.2.2.1 M'.2.2.2.1 M'.2.2.2.2.1 :: z_T) (z_rm (d - 1) x1 y1) x1 y1 i.2.2.1 := ⟨z_cwB _ hts (z_w_in c7) (by rw [c4]; exact z_w_in c10) (z_w_in c11) rfl rfl c12 (z_rmok hR hd0 c13), hts _ (z_w_in c8), hts _ (z_w_in c9)⟩
  refine z_callx (vx_runV (As := ((st.take i.2.2.1).reverse).map (z_tr ad)) (rest := rest.map (z_tr ad)) (b := ad r) ⟨hx, hb, hml, hown, hts⟩ hMet cw ⟨z_Pm_blind, hrecv, fun U hU hW => ⟨rfl, hK.at q4 hU hW, by rw [hU]; exact q1⟩⟩ rfl (z_lens ad hn) q5.1 (z_stk ad hst) (lv_room (by rw [z_cat_tr]; exact hcat)) hd ⟨?_, ?_⟩) q4 (fun v hv ad' H1 locs1 g1 g2 g3 g4 g5 => z_cont (hret v hv) c2 q2 q3 q5 q6 ok2 q8 q9 g1 g2 g3 g4 g5) ?_
  · have := hR.2.2.1; omega
  · have := hR.2.2.2; omega
  intro x E hx9 hE ad' H1 locs1 q10 ce g1 g2 g3 g4 e1 e2 e3
  rcases hthr x hx9 with ⟨qh, hf, hW⟩ | ⟨hh0, rfl, rfl, hX⟩
  · exact z_caught (d := d) hFr0 hK hhs hckH (by rw [hnx]; exact c14) hf hE hW q2 q3 q5 q6 q8 q9 g1 g2 g3 g4 e1 e2 e3
  · exact hX x E rfl hE hh0 k ad' H1 locs1 ls (cells + x1) (slots + y1) (rest.map (z_tr ad)) q10 ce g2 (q2.trans g1 q3) (by omega) g4 e1 e2 e3 (by omega) (by omega)
set_option maxHeartbeats 4000000 in
theorem z_cl55 (hFr : z_Fr p s m args meth c M) (hK : z_K l Z D tc adK adV sb sx s) (hA : z_A0 adK sb ad0) (hR : z_Rm R d C S) (hi1 : i.1 = 55) (hck : z_ckB M is hs i q k = true) (hd : decode M.2.2.1 q.1 = .ok (q.2.1, q.2.2.1)) (hnx : z_nxOf is k = q.1) (hcal : z_cal0 i d st h = some (j', as, rest)) (hM' : z_ms[j']? = some M') (hcs' : z_cs[j']? = some cs') (his' : z_is[j']? = some is') (hhs' : z_hs[j']? = some hs') (hck' : z_ckM M' cs' is' hs' = true) (hw : (lg_sl as).length ≤ M'.2.2.2.1)
    (hB : z_Bd sx (d - 1) j' 0 (lv_args 0 as) [] h (.inl v) h1 x1 y1)
    (hret : z_W p l e R s m args below meth c Z D tc M (z_nxOf is) ad0 n0 C S Q (k + 1) lo (v.toList ++ rest) h1 kc ks) :
    z_W p l e R s m args below meth c Z D tc M (z_nxOf is) ad0 n0 C S Q k lo st h (kc + x1) (ks + y1) := by
  obtain ⟨rfl, hd0, hn, hcat, rfl, rfl⟩ := z_cal5x (Or.inl hi1) hcal
  rw [z_ckB55 hi1, hM'] at hck
  split at hck
  case h_2 => cases hck
  next idx M9 hins hM9 =>
  cases hM9
  simp only [Bool.and_eq_true, decide_eq_true_eq] at hck
  obtain ⟨⟨⟨⟨⟨⟨⟨⟨⟨c1, c2⟩, c3⟩, c4⟩, c5⟩, c6⟩, c7⟩, c8⟩, c9⟩, c10⟩ := hck
  rw [hins, c1, ← hnx] at hd
  rw [← hnx] at c2
  obtain ⟨hx, hb, hml, hr9, hown, hts, -⟩ := hFr
  intro ad H locs ls cells slots q1 q2 q3 q4 q5 q6 q7 q8 q9
  have ok1 : ∀ w ∈ (st.take i.2.2.1).reverse, z_okV h.length w := fun w hw => q7 w (List.mem_of_mem_take (List.mem_reverse.mp hw))
  have ok2 : ∀ w ∈ st.drop i.2.2.1, z_okV h.length w := fun w hw => q7 w (List.mem_of_mem_drop hw)
  have hMet := z_toMet (z_met hB hM' hcs' his' hhs' hck' hw c3 l Z D tc adK adV sb ad (hA.ag q2) ok1)
  have cw : CallB R s args M.1 idx M'.2.1 M'.2.2.1 M'.2.2.2.1 M'.2.2.2.2.1 (.code M'.2.1 M'.2.2.1 M'.2.2.2.1 M'.2.2.2.2.1 :: z_T) (z_rm (d - 1) x1 y1) x1 y1 i.2.2.1 := z_cwB _ hts (z_w_in c5) (by rw [c4]; exact z_w_in c7) (z_w_in c8) rfl rfl c9 (z_rmok hR hd0 c10)
  refine z_calln (va_runS (As := ((st.take i.2.2.1).reverse).map (z_tr ad)) (rest := (st.drop i.2.2.1).map (z_tr ad)) ⟨hx, hb, hml, hown, hts⟩ hMet ⟨cw, hts _ (z_w_in c6)⟩ ⟨z_Pm_blind, fun U hU hW => ⟨rfl, hK.at q4 hU hW, by rw [hU]; exact q1⟩⟩ rfl (z_lens ad hn) q5.1 (z_stk0 ad) (lv_room (by rw [z_cat_tr]; exact hcat)) hd ⟨?_, ?_⟩) q4 (fun v9 hv ad' H1 locs1 g1 g2 g3 g4 g5 => z_cont (v := v9) (by cases hv; exact hret) c2 q2 q3 q5 q6 ok2 q8 q9 g1 g2 g3 g4 g5)
  · have := hR.2.2.1; omega
  · have := hR.2.2.2; omega
set_option maxHeartbeats 4000000 in
theorem z_cl72 (hFr : z_Fr p s m args meth c M) (hK : z_K l Z D tc adK adV sb sx s) (hA : z_A0 adK sb ad0) (hR : z_Rm R d C S) (hi1 : i.1 = 72) (hck : z_ckB M is hs i q k = true) (hd : decode M.2.2.1 q.1 = .ok (q.2.1, q.2.2.1)) (hnx : z_nxOf is k = q.1) (hcal : z_cal0 i d st h = some (j', as, rest)) (hM' : z_ms[j']? = some M') (hcs' : z_cs[j']? = some cs') (his' : z_is[j']? = some is') (hhs' : z_hs[j']? = some hs') (hck' : z_ckM M' cs' is' hs' = true) (hw : (lg_sl as).length ≤ M'.2.2.2.1)
    (hB : z_Bd sx (d - 1) j' 0 (lv_args 0 as) [] h (.inl v) h1 x1 y1)
    (hret : z_W p l e R s m args below meth c Z D tc M (z_nxOf is) ad0 n0 C S Q (k + 1) lo (v.toList ++ rest) h1 kc ks) :
    z_W p l e R s m args below meth c Z D tc M (z_nxOf is) ad0 n0 C S Q k lo st h (kc + x1) (ks + y1) := by
  obtain ⟨rfl, hd0, hn, hcat, rfl, rfl⟩ := z_cal5x (Or.inr hi1) hcal
  rw [z_ckB72 hi1, hM'] at hck
  split at hck
  case h_2 => cases hck
  next idx M9 hins hM9 =>
  cases hM9
  simp only [Bool.and_eq_true, decide_eq_true_eq] at hck
  obtain ⟨⟨⟨⟨⟨⟨⟨⟨⟨c1, c2⟩, c3⟩, c4⟩, c5⟩, c6⟩, c7⟩, c8⟩, c9⟩, c10⟩ := hck
  rw [hins, c1, ← hnx] at hd
  rw [← hnx] at c2
  obtain ⟨hx, hb, hml, hr9, hown, hts, -⟩ := hFr
  intro ad H locs ls cells slots q1 q2 q3 q4 q5 q6 q7 q8 q9
  have ok1 : ∀ w ∈ (st.take i.2.2.1).reverse, z_okV h.length w := fun w hw => q7 w (List.mem_of_mem_take (List.mem_reverse.mp hw))
  have ok2 : ∀ w ∈ st.drop i.2.2.1, z_okV h.length w := fun w hw => q7 w (List.mem_of_mem_drop hw)
  have hMet := z_toMet (z_metH hB hM' hcs' his' hhs' hck' hw l Z D tc adK adV sb ad (hA.ag q2) ok1)
  have hR9 := z_rmok (kc := x1) (ks := y1) hR hd0 c10
  have hy := z_yok_in c9
  have cw : vx_CSW R s args M.1 idx M'.2.1 M'.2.2.1 M'.2.2.2.1 M'.2.2.2.2.1 M'.2.2.2.2.2 (.codeWith M'.2.1 M'.2.2.1 M'.2.2.2.1 M'.2.2.2.2.1 M'.2.2.2.2.2 :: z_T) (z_rm (d - 1) x1 y1) x1 y1 i.2.2.1 :=
    ⟨⟨rfl, rfl, hR9.1, hR9.2, pay_in hts (z_goodC (z_w_in c8)), List.mem_cons_self⟩, hts _ (z_w_in c8), hts _ (by rw [c4]; exact z_w_in c7), ⟨hy.1, hy.2.1⟩, fun sig h9 => by have h2 := hy.2.2; rw [h9] at h2; exact (Option.some.inj h2).symm, hts _ (z_w_in c5), hts _ (z_w_in c6)⟩
  refine z_calln (vx_runSW (As := ((st.take i.2.2.1).reverse).map (z_tr ad)) (rest := (st.drop i.2.2.1).map (z_tr ad)) ⟨hx, hb, hml, hown, hts⟩ hMet cw ⟨z_Pm_blind, fun U hU hW => ⟨rfl, hK.at q4 hU hW, by rw [hU]; exact q1⟩⟩ rfl (z_lens ad hn) q5.1 (z_stk0 ad) (lv_room (by rw [z_cat_tr]; exact hcat)) hd ⟨?_, ?_⟩) q4 (fun v9 hv ad' H1 locs1 g1 g2 g3 g4 g5 => z_cont (v := v9) (by cases hv; exact hret) c2 q2 q3 q5 q6 ok2 q8 q9 g1 g2 g3 g4 g5)
  · have := hR.2.2.1; omega
  · have := hR.2.2.2; omega
set_option maxHeartbeats 4000000 in
theorem z_cl56 (hFr : z_Fr p s m args meth c M) (hK : z_K l Z D tc adK adV sb sx s) (hA : z_A0 adK sb ad0) (hR : z_Rm R d C S) (hi1 : i.1 = 56) (hck : z_ckB M is hs i q k = true) (hd : decode M.2.2.1 q.1 = .ok (q.2.1, q.2.2.1)) (hnx : z_nxOf is k = q.1) (hcal : z_cal0 i d st h = some (j', as, rest)) (hM' : z_ms[j']? = some M') (hcs' : z_cs[j']? = some cs') (his' : z_is[j']? = some is') (hhs' : z_hs[j']? = some hs') (hck' : z_ckM M' cs' is' hs' = true) (hw : (lg_sl as).length ≤ M'.2.2.2.1)
    (hB : z_Bd sx (d - 1) j' 0 (lv_args 0 as) [] h (.inl v) h1 x1 y1)
    (hret : z_W p l e R s m args below meth c Z D tc M (z_nxOf is) ad0 n0 C S Q (k + 1) lo (v.toList ++ rest) h1 kc ks) :
    z_W p l e R s m args below meth c Z D tc M (z_nxOf is) ad0 n0 C S Q k lo st h (kc + x1) (ks + y1) := by
  obtain ⟨rfl, hd0, hn, hcat, r, rfl, hst⟩ := z_cal56 (Or.inl hi1) hcal
  rw [z_ckB56 hi1, hM'] at hck
  split at hck
  case h_2 => cases hck
  next idx M9 hins hM9 =>
  cases hM9
  simp only [Bool.and_eq_true, decide_eq_true_eq] at hck
  obtain ⟨⟨⟨⟨⟨⟨⟨⟨⟨⟨⟨c1, c2⟩, c3⟩, c4⟩, c5⟩, c6⟩, c7⟩, c8⟩, c9⟩, c10⟩, c11⟩, c12⟩ := hck
  rw [hins, c1, ← hnx] at hd
  rw [← hnx] at c2
  obtain ⟨hx, hb, hml, hr9, hown, hts, -⟩ := hFr
  intro ad H locs ls cells slots q1 q2 q3 q4 q5 q6 q7 q8 q9
  obtain ⟨ok1, ok2⟩ := z_asok hst q7
  have hMet := z_toMet (z_met hB hM' hcs' his' hhs' hck' hw c3 l Z D tc adK adV sb ad (hA.ag q2) ok1)
  rw [c6] at hMet
  have cw : CallB R s args M.1 idx M'.2.1 M'.2.2.1 M'.2.2.2.1 none (.code M'.2.1 M'.2.2.1 M'.2.2.2.1 none :: z_T) (z_rm (d - 1) x1 y1) x1 y1 i.2.2.1 := z_cwB _ hts (z_w_in c7) (by rw [c4]; exact z_w_in c9) (z_w_in c10) rfl rfl c11 (z_rmok hR hd0 c12)
  refine z_calln (va_runI (As := ((st.take i.2.2.1).reverse).map (z_tr ad)) (rest := rest.map (z_tr ad)) (b := ad r) ⟨hx, hb, hml, hown, hts⟩ hMet ⟨cw, c5, hts _ (z_w_in c8)⟩ ⟨z_Pm_blind, fun U hU hW => ⟨rfl, hK.at q4 hU hW, by rw [hU]; exact q1⟩⟩ rfl (z_lens ad hn) q5.1 (z_stk ad hst) (lv_room (by rw [z_cat_tr]; exact hcat)) hd ⟨?_, ?_⟩) q4 (fun v9 hv ad' H1 locs1 g1 g2 g3 g4 g5 => z_cont (v := v9) (by cases hv; exact hret) c2 q2 q3 q5 q6 ok2 q8 q9 g1 g2 g3 g4 g5)
  · have := hR.2.2.1; omega
  · have := hR.2.2.2; omega
set_option maxHeartbeats 4000000 in
theorem z_cl73 (hFr : z_Fr p s m args meth c M) (hK : z_K l Z D tc adK adV sb sx s) (hA : z_A0 adK sb ad0) (hR : z_Rm R d C S) (hi1 : i.1 = 73) (hck : z_ckB M is hs i q k = true) (hd : decode M.2.2.1 q.1 = .ok (q.2.1, q.2.2.1)) (hnx : z_nxOf is k = q.1) (hcal : z_cal0 i d st h = some (j', as, rest)) (hM' : z_ms[j']? = some M') (hcs' : z_cs[j']? = some cs') (his' : z_is[j']? = some is') (hhs' : z_hs[j']? = some hs') (hck' : z_ckM M' cs' is' hs' = true) (hw : (lg_sl as).length ≤ M'.2.2.2.1)
    (hB : z_Bd sx (d - 1) j' 0 (lv_args 0 as) [] h (.inl v) h1 x1 y1)
    (hret : z_W p l e R s m args below meth c Z D tc M (z_nxOf is) ad0 n0 C S Q (k + 1) lo (v.toList ++ rest) h1 kc ks) :
    z_W p l e R s m args below meth c Z D tc M (z_nxOf is) ad0 n0 C S Q k lo st h (kc + x1) (ks + y1) := by
  obtain ⟨rfl, hd0, hn, hcat, r, rfl, hst⟩ := z_cal56 (Or.inr hi1) hcal
  rw [z_ckB73 hi1, hM'] at hck
  split at hck
  case h_2 => cases hck
  next idx M9 hins hM9 =>
  cases hM9
  simp only [Bool.and_eq_true, decide_eq_true_eq] at hck
  obtain ⟨⟨⟨⟨⟨⟨⟨⟨⟨⟨⟨c1, c2⟩, c3⟩, c4⟩, c5⟩, c6⟩, c7⟩, c8⟩, c9⟩, c10⟩, c11⟩, c12⟩ := hck
  rw [hins, c1, ← hnx] at hd
  rw [← hnx] at c2
  obtain ⟨hx, hb, hml, hr9, hown, hts, -⟩ := hFr
  intro ad H locs ls cells slots q1 q2 q3 q4 q5 q6 q7 q8 q9
  obtain ⟨ok1, ok2⟩ := z_asok hst q7
  have hMet := z_toMet (z_met hB hM' hcs' his' hhs' hck' hw c3 l Z D tc adK adV sb ad (hA.ag q2) ok1)
  rw [c6] at hMet
  have cw : va_CN R s args M.1 idx M'.2.1 RX11 M'.2.2.1 M'.2.2.2.1 none (.code M'.2.1 M'.2.2.1 M'.2.2.2.1 none :: z_T) (z_rm (d - 1) x1 y1) x1 y1 i.2.2.1 := va_cnB _ hts (z_goodC (z_w_in c10)) rfl rfl rfl (hK.2.2.2.2.2.1 _ c7) (hts _ (by rw [c4]; exact z_w_in c9)) (z_yok_in c11) (z_rmok hR hd0 c12)
  refine z_calln (va_runIN (As := ((st.take i.2.2.1).reverse).map (z_tr ad)) (rest := rest.map (z_tr ad)) (b := ad r) ⟨hx, hb, hml, hown, hts⟩ hMet ⟨cw, c5, hts _ (z_w_in c8)⟩ ⟨z_Pm_blind, fun U hU hW => ⟨rfl, hK.at q4 hU hW, by rw [hU]; exact q1⟩⟩ rfl (z_lens ad hn) q5.1 (z_stk ad hst) (lv_room (by rw [z_cat_tr]; exact hcat)) hd ⟨?_, ?_⟩) q4 (fun v9 hv ad' H1 locs1 g1 g2 g3 g4 g5 => z_cont (v := v9) (by cases hv; exact hret) c2 q2 q3 q5 q6 ok2 q8 q9 g1 g2 g3 g4 g5)
  · have := hR.2.2.1; omega
  · have := hR.2.2.2; omega
end ZCalls
end
section
/-! the run is the machine's: one induction -/
theorem z_cal_no {i : zI} {d : Nat} {st : List Value} {h : zH} {j : Nat} {as rest : List Value} (hc : z_cal0 i d st h = some (j, as, rest)) : i.1 = 54 ∨ i.1 = 55 ∨ i.1 = 72 ∨ i.1 = 56 ∨ i.1 = 73 := by
  unfold z_cal0 at hc
  by_cases hd : d = 0 ∨ st.length < i.2.2.1
  · rw [if_pos hd] at hc; cases hc
  rw [if_neg hd] at hc
  split at hc
  · next h9 => exact Or.inl h9
  · next h9 => exact Or.inr (Or.inl h9)
  · next h9 => exact Or.inr (Or.inr (Or.inl h9))
  · next h9 => exact Or.inr (Or.inr (Or.inr (Or.inl h9)))
  · next h9 => exact Or.inr (Or.inr (Or.inr (Or.inr h9)))
  · cases hc
theorem z_ckB_op {M : zMi} {is : List zJ} {hs : List zHd} {i : zI} {q : zJ} {k : Nat} (h : i.1 ≠ 50 ∧ i.1 ≠ 51 ∧ i.1 ≠ 52 ∧ i.1 ≠ 53 ∧ i.1 ≠ 62 ∧ i.1 ≠ 54 ∧ i.1 ≠ 55 ∧ i.1 ≠ 72 ∧ i.1 ≠ 56 ∧ i.1 ≠ 73) : z_ckB M is hs i q k = (z_cks.getD i.1 zk_no) M i.2.1 i.2.2.1 i.2.2.2 q.1 q.2.1 q.2.2.1 q.2.2.2 (z_nxOf is) k := by
  obtain ⟨h0, h1, h2, h3, h4, h5, h6, h7, h8, h9⟩ := h
  unfold z_ckB
  split
  · next e => exact absurd e h0
  · next e => exact absurd e h1
  · next e => exact absurd e h2
  · next e => exact absurd e h3
  · next e => exact absurd e h4
  · next e => exact absurd e h5
  · next e => exact absurd e h6
  · next e => exact absurd e h7
  · next e => exact absurd e h8
  · next e => exact absurd e h9
  · rfl
theorem z_opno {sx : zX} {d a b k : Nat} {ci : Int} {lo : zL} {st : List Value} {h : zH} {o : Nat} (ho : o = 50 ∨ o = 51 ∨ o = 52 ∨ o = 53 ∨ o = 62 ∨ o = 54 ∨ o = 55 ∨ o = 72 ∨ o = 56 ∨ o = 73 ∨ o = 99) : (z_ops.getD o z_no) sx d a b ci k lo st h = none := by
  rcases ho with rfl | rfl | rfl | rfl | rfl | rfl | rfl | rfl | rfl | rfl | rfl <;> rfl
theorem z_lenAt {j : Nat} {M : zMi} (hL : z_LEN) (hM : z_ms[j]? = some M) : ∃ cs is hs, z_cs[j]? = some cs ∧ z_is[j]? = some is ∧ z_hs[j]? = some hs := by
  have hl := (List.getElem?_eq_some_iff.mp hM).1
  exact ⟨z_cs[j]'(by rw [hL.1]; exact hl), z_is[j]'(by rw [hL.2.1]; exact hl), z_hs[j]'(by rw [hL.2.2]; exact hl), List.getElem?_eq_getElem _, List.getElem?_eq_getElem _, List.getElem?_eq_getElem _⟩
theorem z_mapadd {r : Option zRes} {x y : Nat} {o : zO} {hF : zH} {kc ks : Nat} (h : r.map (z_add x y) = some (o, hF, kc, ks)) : ∃ a b, r = some (o, hF, a, b) ∧ kc = a + x ∧ ks = b + y := by
  cases r with
  | none => cases h
  | some w =>
    obtain ⟨o9, h9, a, b⟩ := w
    simp only [Option.map_some, z_add, Option.some.injEq, Prod.mk.injEq] at h
    obtain ⟨rfl, rfl, rfl, rfl⟩ := h
    exact ⟨a, b, rfl, rfl, rfl⟩
set_option maxHeartbeats 4000000 in
theorem z_sound (hOK : z_OK) (hLEN : z_LEN) (sx : zX) : ∀ (n d j k : Nat) (lo : zL) (st : List Value) (h : zH) (o : zO) (hF : zH) (x y : Nat), z_run sx n d j k lo st h = some (o, hF, x, y) → z_Bd sx d j k lo st h o hF x y := by
  intro n
  induction n with
  | zero => intro d j k lo st h o hF x y hr; rw [z_run] at hr; cases hr
  | succ n ih =>
    intro d j k lo st h o hF x y hr
    rw [z_run] at hr
    intro p l e R s m args below meth c Z D tc adK adV sb M cs is hs ad0 n0 C S Q hM hcs his hhs hFr hK hA hR hHR hHX
    rw [hM, hcs, hhs] at hr
    dsimp only at hr
    cases hk : cs[k]? with
    | none => rw [hk] at hr; cases hr
    | some i =>
    rw [hk] at hr
    dsimp only at hr
    have hckM := hOK j M cs is hs hM hcs his hhs
    have hckM0 := hckM
    unfold z_ckM at hckM
    simp only [Bool.and_eq_true, decide_eq_true_eq] at hckM
    obtain ⟨⟨⟨⟨⟨c1, c2⟩, c3⟩, c4⟩, c5⟩, c6⟩ := hckM
    obtain ⟨q, hq, hckA⟩ := z_ckL_at 0 cs is c6 k i hk
    rw [Nat.zero_add] at hckA
    have hnx : z_nxOf is k = q.1 := by unfold z_nxOf; rw [hq]; rfl
    cases hfin : z_fin M i d st with
    | some w =>
      obtain ⟨o9, x9, y9⟩ := w
      rw [hfin] at hr
      simp only [Option.some.injEq, Prod.mk.injEq] at hr
      obtain ⟨rfl, rfl, rfl, rfl⟩ := hr
      exact hHR k i q lo st x9 y9 hk hq hckA hfin
    | none =>
    rw [hfin] at hr
    dsimp only at hr
    cases hcal : z_cal i d st h with
    | some w =>
      obtain ⟨j', as, rest⟩ := w
      rw [hcal] at hr
      dsimp only at hr
      obtain ⟨hcal0, M', hM', hw⟩ := z_cal_in hcal
      obtain ⟨cs', is', hs', hcs', his', hhs'⟩ := z_lenAt hLEN hM'
      have hck' := hOK j' M' cs' is' hs' hM' hcs' his' hhs'
      have hop := z_cal_no hcal0
      have hckB : decode M.2.2.1 q.1 = .ok (q.2.1, q.2.2.1) ∧ z_ckB M is hs i q k = true := by
        unfold z_ckA at hckA
        rw [Bool.or_eq_true, Bool.and_eq_true, decide_eq_true_eq, decide_eq_true_eq] at hckA
        rcases hckA with h9 | h9
        · omega
        · exact h9
      cases hin : z_run sx n (d - 1) j' 0 (lv_args 0 as) [] h with
      | none => rw [hin] at hr; cases hr
      | some w =>
      obtain ⟨oi, h1, x1, y1⟩ := w
      rw [hin] at hr
      have hB := ih (d - 1) j' 0 (lv_args 0 as) [] h oi h1 x1 y1 hin
      cases oi with
      | inl v =>
        dsimp only at hr
        obtain ⟨a, b, hr2, rfl, rfl⟩ := z_mapadd hr
        have hW := ih d j (k + 1) lo (v.toList ++ rest) h1 o hF a b hr2 p l e R s m args below meth c Z D tc adK adV sb M cs is hs ad0 n0 C S Q hM hcs his hhs hFr hK hA hR hHR hHX
        rcases hop with hi | hi | hi | hi | hi
        · exact z_cl54 hFr hK hA hR c4 c5 hi hckB.2 hckB.1 hnx hcal0 hM' hcs' his' hhs' hck' hw hB (fun v9 hv => by cases hv; exact hW) (fun E hE => by cases hE)
        · exact z_cl55 hFr hK hA hR hi hckB.2 hckB.1 hnx hcal0 hM' hcs' his' hhs' hck' hw hB hW
        · exact z_cl72 hFr hK hA hR hi hckB.2 hckB.1 hnx hcal0 hM' hcs' his' hhs' hck' hw hB hW
        · exact z_cl56 hFr hK hA hR hi hckB.2 hckB.1 hnx hcal0 hM' hcs' his' hhs' hck' hw hB hW
        · exact z_cl73 hFr hK hA hR hi hckB.2 hckB.1 hnx hcal0 hM' hcs' his' hhs' hck' hw hB hW
      | inr E =>
        dsimp only at hr
        by_cases hi : i.1 = 54
        case neg => rw [if_neg hi] at hr; cases hr
        rw [if_pos hi] at hr
        cases hf : hs.find? (fun q => q.2.2.2.2.1 == E) with
        | some qh =>
          rw [hf] at hr
          dsimp only at hr
          obtain ⟨a, b, hr2, rfl, rfl⟩ := z_mapadd hr
          have hW := ih d j qh.2.2.2.2.2.1 (z_drop lo qh.2.2.2.2.2.2) [] h1 o hF a b hr2 p l e R s m args below meth c Z D tc adK adV sb M cs is hs ad0 n0 C S Q hM hcs his hhs hFr hK hA hR hHR hHX
          exact z_cl54 hFr hK hA hR c4 c5 hi hckB.2 hckB.1 hnx hcal0 hM' hcs' his' hhs' hck' hw hB (fun v9 hv => by cases hv) (fun E9 hE => by cases hE; exact Or.inl ⟨qh, hf, hW⟩)
        | none =>
          rw [hf] at hr
          dsimp only at hr
          by_cases hh : hs = []
          case neg => rw [if_neg hh] at hr; cases hr
          rw [if_pos hh] at hr
          simp only [Option.some.injEq, Prod.mk.injEq] at hr
          obtain ⟨rfl, rfl, rfl, rfl⟩ := hr
          have kk := z_cl54 (kc := 0) (ks := 0) (lo := lo) (Q := Q) (n0 := n0) (below := below) (e := e) hFr hK hA hR c4 c5 hi hckB.2 hckB.1 hnx hcal0 hM' hcs' his' hhs' hck' hw hB (fun v9 hv => by cases hv) (fun E9 hE => by cases hE; exact Or.inr ⟨hh, rfl, rfl, hHX⟩)
          rw [Nat.zero_add, Nat.zero_add] at kk
          exact kk
    | none =>
    rw [hcal] at hr
    dsimp only at hr
    cases hop : (z_ops.getD i.1 z_no) sx d i.2.1 i.2.2.1 i.2.2.2 k lo st h with
    | none => rw [hop] at hr; cases hr
    | some w =>
    obtain ⟨k', lo', st', h', x1, y1⟩ := w
    rw [hop] at hr
    dsimp only at hr
    obtain ⟨a, b, hr2, rfl, rfl⟩ := z_mapadd hr
    have hW := ih d j k' lo' st' h' o hF a b hr2 p l e R s m args below meth c Z D tc adK adV sb M cs is hs ad0 n0 C S Q hM hcs his hhs hFr hK hA hR hHR hHX
    have hno : ¬ (i.1 = 50 ∨ i.1 = 51 ∨ i.1 = 52 ∨ i.1 = 53 ∨ i.1 = 62 ∨ i.1 = 54 ∨ i.1 = 55 ∨ i.1 = 72 ∨ i.1 = 56 ∨ i.1 = 73 ∨ i.1 = 99) := fun h9 => by
      rw [z_opno h9] at hop; cases hop
    have hckB : decode M.2.2.1 q.1 = .ok (q.2.1, q.2.2.1) ∧ z_ckB M is hs i q k = true := by
      unfold z_ckA at hckA
      rw [Bool.or_eq_true, Bool.and_eq_true, decide_eq_true_eq, decide_eq_true_eq] at hckA
      rcases hckA with h9 | h9
      · exact absurd (Or.inr (Or.inr (Or.inr (Or.inr (Or.inr (Or.inr (Or.inr (Or.inr (Or.inr (Or.inr h9)))))))))) hno
      · exact h9
    have hck2 := hckB.2
    rw [z_ckB_op (by omega)] at hck2
    have hd := hckB.1
    rw [← hnx] at hd hck2
    exact z_all i.1 p l e R s m args below meth c Z D tc adK adV sb sx M (z_nxOf is) ad0 n0 C S d Q i.2.1 i.2.2.1 i.2.2.2 k q.2.1 q.2.2.1 q.2.2.2 hFr hK hA hR hd hck2 lo st h k' lo' st' h' x1 y1 hop a b hW
end
