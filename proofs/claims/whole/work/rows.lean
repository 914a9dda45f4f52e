section
-- ===== PART A: goes FIRST, ahead of the names: the tables' words, and 'selects' of the private methods out of them =====
/-- a private method of a class that the tables say can be made, by its rows of tables_1 -/
def lw_okq (q : MethodName × Nat) : Prop := (q.1.cls ≠ "java/lang/invoke/MethodHandle" ∧ q.1.cls ≠ "java/lang/invoke/VarHandle") ∧ Cond.instantiable q.1.cls q.2 ∈ tables_1 ∧ Cond.privateMethod q.1 ∈ tables_1 ∧ Cond.instanceMethod q.1 ∈ tables_1
theorem lw_p0 : lw_okq (⟨"java/lang/Throwable", "fillInStackTrace", "(I)Ljava/lang/Throwable;"⟩, 6) := ⟨⟨by decide +kernel, by decide +kernel⟩, List.mem_of_getElem? (i := 188) (by decide +kernel), List.mem_of_getElem? (i := 186) (by decide +kernel), List.mem_of_getElem? (i := 187) (by decide +kernel)⟩
theorem lw_p1 : lw_okq (⟨"ForkPool", "refuseIfBusy", "(LForkPool$Row;)V"⟩, 7) := ⟨⟨by decide +kernel, by decide +kernel⟩, List.mem_of_getElem? (i := 25) (by decide +kernel), List.mem_of_getElem? (i := 218) (by decide +kernel), List.mem_of_getElem? (i := 219) (by decide +kernel)⟩
theorem lw_p2 : lw_okq (⟨"ForkPool", "rowWith", "(II)LForkPool$Row;"⟩, 7) := ⟨⟨by decide +kernel, by decide +kernel⟩, List.mem_of_getElem? (i := 25) (by decide +kernel), List.mem_of_getElem? (i := 250) (by decide +kernel), List.mem_of_getElem? (i := 251) (by decide +kernel)⟩
theorem lw_p3 : lw_okq (⟨"ForkPool", "madeRow", "(I)LForkPool$Row;"⟩, 7) := ⟨⟨by decide +kernel, by decide +kernel⟩, List.mem_of_getElem? (i := 25) (by decide +kernel), List.mem_of_getElem? (i := 254) (by decide +kernel), List.mem_of_getElem? (i := 255) (by decide +kernel)⟩
theorem lw_p4 : lw_okq (⟨"java/util/ArrayList", "add", "(Ljava/lang/Object;[Ljava/lang/Object;I)V"⟩, 3) := ⟨⟨by decide +kernel, by decide +kernel⟩, List.mem_of_getElem? (i := 66) (by decide +kernel), List.mem_of_getElem? (i := 404) (by decide +kernel), List.mem_of_getElem? (i := 405) (by decide +kernel)⟩
theorem lw_p5 : lw_okq (⟨"java/util/ArrayList", "grow", "()[Ljava/lang/Object;"⟩, 3) := ⟨⟨by decide +kernel, by decide +kernel⟩, List.mem_of_getElem? (i := 66) (by decide +kernel), List.mem_of_getElem? (i := 408) (by decide +kernel), List.mem_of_getElem? (i := 409) (by decide +kernel)⟩
theorem lw_p6 : lw_okq (⟨"java/util/ArrayList", "grow", "(I)[Ljava/lang/Object;"⟩, 3) := ⟨⟨by decide +kernel, by decide +kernel⟩, List.mem_of_getElem? (i := 66) (by decide +kernel), List.mem_of_getElem? (i := 412) (by decide +kernel), List.mem_of_getElem? (i := 413) (by decide +kernel)⟩
theorem lw_p7 : lw_okq (⟨"ForkPool", "makeStep", "()Z"⟩, 7) := ⟨⟨by decide +kernel, by decide +kernel⟩, List.mem_of_getElem? (i := 25) (by decide +kernel), List.mem_of_getElem? (i := 463) (by decide +kernel), List.mem_of_getElem? (i := 464) (by decide +kernel)⟩
theorem lw_p8 : lw_okq (⟨"java/util/ArrayList", "fastRemove", "([Ljava/lang/Object;I)V"⟩, 3) := ⟨⟨by decide +kernel, by decide +kernel⟩, List.mem_of_getElem? (i := 66) (by decide +kernel), List.mem_of_getElem? (i := 489) (by decide +kernel), List.mem_of_getElem? (i := 490) (by decide +kernel)⟩
theorem lw_p9 : lw_okq (⟨"ForkPool", "perform", "(LForkPool$Task;LForkPool$Worker;)V"⟩, 7) := ⟨⟨by decide +kernel, by decide +kernel⟩, List.mem_of_getElem? (i := 25) (by decide +kernel), List.mem_of_getElem? (i := 495) (by decide +kernel), List.mem_of_getElem? (i := 496) (by decide +kernel)⟩
theorem lw_p10 : lw_okq (⟨"ForkPool", "mustFork", "(LForkPool$Task;)Z"⟩, 7) := ⟨⟨by decide +kernel, by decide +kernel⟩, List.mem_of_getElem? (i := 25) (by decide +kernel), List.mem_of_getElem? (i := 499) (by decide +kernel), List.mem_of_getElem? (i := 500) (by decide +kernel)⟩
theorem lw_p11 : lw_okq (⟨"ForkPool", "endTask", "(LForkPool$Task;LForkPool$Worker;)V"⟩, 7) := ⟨⟨by decide +kernel, by decide +kernel⟩, List.mem_of_getElem? (i := 25) (by decide +kernel), List.mem_of_getElem? (i := 552) (by decide +kernel), List.mem_of_getElem? (i := 553) (by decide +kernel)⟩
theorem lw_p12 : lw_okq (⟨"ForkPool", "endRound", "(LForkPool$Task;LForkPool$Worker;)V"⟩, 7) := ⟨⟨by decide +kernel, by decide +kernel⟩, List.mem_of_getElem? (i := 25) (by decide +kernel), List.mem_of_getElem? (i := 563) (by decide +kernel), List.mem_of_getElem? (i := 564) (by decide +kernel)⟩
theorem lw_p13 : lw_okq (⟨"ForkPool", "fail", "(LForkPool$Job;I)V"⟩, 7) := ⟨⟨by decide +kernel, by decide +kernel⟩, List.mem_of_getElem? (i := 25) (by decide +kernel), List.mem_of_getElem? (i := 567) (by decide +kernel), List.mem_of_getElem? (i := 568) (by decide +kernel)⟩
theorem lw_p14 : lw_okq (⟨"ForkPool", "findVictim", "(LForkPool$Worker;)LForkPool$Worker;"⟩, 7) := ⟨⟨by decide +kernel, by decide +kernel⟩, List.mem_of_getElem? (i := 25) (by decide +kernel), List.mem_of_getElem? (i := 583) (by decide +kernel), List.mem_of_getElem? (i := 584) (by decide +kernel)⟩
theorem lw_p15 : lw_okq (⟨"ForkPool", "begunJob", "(I)LForkPool$Job;"⟩, 7) := ⟨⟨by decide +kernel, by decide +kernel⟩, List.mem_of_getElem? (i := 25) (by decide +kernel), List.mem_of_getElem? (i := 599) (by decide +kernel), List.mem_of_getElem? (i := 600) (by decide +kernel)⟩
def lw_privs_1 : List (MethodName × Nat) := [(⟨"java/lang/Throwable", "fillInStackTrace", "(I)Ljava/lang/Throwable;"⟩, 6), (⟨"ForkPool", "refuseIfBusy", "(LForkPool$Row;)V"⟩, 7), (⟨"ForkPool", "rowWith", "(II)LForkPool$Row;"⟩, 7), (⟨"ForkPool", "madeRow", "(I)LForkPool$Row;"⟩, 7), (⟨"java/util/ArrayList", "add", "(Ljava/lang/Object;[Ljava/lang/Object;I)V"⟩, 3), (⟨"java/util/ArrayList", "grow", "()[Ljava/lang/Object;"⟩, 3), (⟨"java/util/ArrayList", "grow", "(I)[Ljava/lang/Object;"⟩, 3), (⟨"ForkPool", "makeStep", "()Z"⟩, 7), (⟨"java/util/ArrayList", "fastRemove", "([Ljava/lang/Object;I)V"⟩, 3), (⟨"ForkPool", "perform", "(LForkPool$Task;LForkPool$Worker;)V"⟩, 7), (⟨"ForkPool", "mustFork", "(LForkPool$Task;)Z"⟩, 7), (⟨"ForkPool", "endTask", "(LForkPool$Task;LForkPool$Worker;)V"⟩, 7), (⟨"ForkPool", "endRound", "(LForkPool$Task;LForkPool$Worker;)V"⟩, 7), (⟨"ForkPool", "fail", "(LForkPool$Job;I)V"⟩, 7), (⟨"ForkPool", "findVictim", "(LForkPool$Worker;)LForkPool$Worker;"⟩, 7), (⟨"ForkPool", "begunJob", "(I)LForkPool$Job;"⟩, 7)]
theorem lw_r1 : ∀ q ∈ lw_privs_1, lw_okq q := List.forall_mem_cons.mpr ⟨lw_p0, List.forall_mem_cons.mpr ⟨lw_p1, List.forall_mem_cons.mpr ⟨lw_p2, List.forall_mem_cons.mpr ⟨lw_p3, List.forall_mem_cons.mpr ⟨lw_p4, List.forall_mem_cons.mpr ⟨lw_p5, List.forall_mem_cons.mpr ⟨lw_p6, List.forall_mem_cons.mpr ⟨lw_p7, List.forall_mem_cons.mpr ⟨lw_p8, List.forall_mem_cons.mpr ⟨lw_p9, List.forall_mem_cons.mpr ⟨lw_p10, List.forall_mem_cons.mpr ⟨lw_p11, List.forall_mem_cons.mpr ⟨lw_p12, List.forall_mem_cons.mpr ⟨lw_p13, List.forall_mem_cons.mpr ⟨lw_p14, List.forall_mem_cons.mpr ⟨lw_p15, fun _ h => absurd h List.not_mem_nil⟩⟩⟩⟩⟩⟩⟩⟩⟩⟩⟩⟩⟩⟩⟩⟩
theorem lw_p16 : lw_okq (⟨"ForkPool", "queuedTasks", "(LForkPool$Job;)I"⟩, 7) := ⟨⟨by decide +kernel, by decide +kernel⟩, List.mem_of_getElem? (i := 25) (by decide +kernel), List.mem_of_getElem? (i := 654) (by decide +kernel), List.mem_of_getElem? (i := 655) (by decide +kernel)⟩
theorem lw_p17 : lw_okq (⟨"ForkPool", "workerAt", "(I)LForkPool$Worker;"⟩, 7) := ⟨⟨by decide +kernel, by decide +kernel⟩, List.mem_of_getElem? (i := 25) (by decide +kernel), List.mem_of_getElem? (i := 677) (by decide +kernel), List.mem_of_getElem? (i := 678) (by decide +kernel)⟩
theorem lw_p18 : lw_okq (⟨"ForkPoolModel", "raise", "(I)I"⟩, 33) := ⟨⟨by decide +kernel, by decide +kernel⟩, List.mem_of_getElem? (i := 712) (by decide +kernel), List.mem_of_getElem? (i := 830) (by decide +kernel), List.mem_of_getElem? (i := 831) (by decide +kernel)⟩
theorem lw_p19 : lw_okq (⟨"ForkPoolModel", "busy", "(I)Z"⟩, 33) := ⟨⟨by decide +kernel, by decide +kernel⟩, List.mem_of_getElem? (i := 712) (by decide +kernel), List.mem_of_getElem? (i := 834) (by decide +kernel), List.mem_of_getElem? (i := 835) (by decide +kernel)⟩
theorem lw_p20 : lw_okq (⟨"ForkPoolModel", "noElement", "(II)Z"⟩, 33) := ⟨⟨by decide +kernel, by decide +kernel⟩, List.mem_of_getElem? (i := 712) (by decide +kernel), List.mem_of_getElem? (i := 842) (by decide +kernel), List.mem_of_getElem? (i := 843) (by decide +kernel)⟩
theorem lw_p21 : lw_okq (⟨"ForkPoolModel", "node", "(IIII)I"⟩, 33) := ⟨⟨by decide +kernel, by decide +kernel⟩, List.mem_of_getElem? (i := 712) (by decide +kernel), List.mem_of_getElem? (i := 859) (by decide +kernel), List.mem_of_getElem? (i := 860) (by decide +kernel)⟩
theorem lw_p22 : lw_okq (⟨"ForkPoolModel", "put", "(II)V"⟩, 33) := ⟨⟨by decide +kernel, by decide +kernel⟩, List.mem_of_getElem? (i := 712) (by decide +kernel), List.mem_of_getElem? (i := 863) (by decide +kernel), List.mem_of_getElem? (i := 864) (by decide +kernel)⟩
theorem lw_p23 : lw_okq (⟨"ForkPoolModel", "turns", "()Z"⟩, 33) := ⟨⟨by decide +kernel, by decide +kernel⟩, List.mem_of_getElem? (i := 712) (by decide +kernel), List.mem_of_getElem? (i := 871) (by decide +kernel), List.mem_of_getElem? (i := 872) (by decide +kernel)⟩
theorem lw_p24 : lw_okq (⟨"ForkPoolModel", "pull", "(II)I"⟩, 33) := ⟨⟨by decide +kernel, by decide +kernel⟩, List.mem_of_getElem? (i := 712) (by decide +kernel), List.mem_of_getElem? (i := 875) (by decide +kernel), List.mem_of_getElem? (i := 876) (by decide +kernel)⟩
theorem lw_p25 : lw_okq (⟨"ForkPoolModel", "perform", "(II)V"⟩, 33) := ⟨⟨by decide +kernel, by decide +kernel⟩, List.mem_of_getElem? (i := 712) (by decide +kernel), List.mem_of_getElem? (i := 879) (by decide +kernel), List.mem_of_getElem? (i := 880) (by decide +kernel)⟩
theorem lw_p26 : lw_okq (⟨"ForkPoolModel", "fork", "(II)V"⟩, 33) := ⟨⟨by decide +kernel, by decide +kernel⟩, List.mem_of_getElem? (i := 712) (by decide +kernel), List.mem_of_getElem? (i := 883) (by decide +kernel), List.mem_of_getElem? (i := 884) (by decide +kernel)⟩
theorem lw_p27 : lw_okq (⟨"ForkPoolModel", "joined", "(IJJ)J"⟩, 33) := ⟨⟨by decide +kernel, by decide +kernel⟩, List.mem_of_getElem? (i := 712) (by decide +kernel), List.mem_of_getElem? (i := 887) (by decide +kernel), List.mem_of_getElem? (i := 888) (by decide +kernel)⟩
theorem lw_p28 : lw_okq (⟨"ForkPoolModel", "leaf", "(I)Z"⟩, 33) := ⟨⟨by decide +kernel, by decide +kernel⟩, List.mem_of_getElem? (i := 712) (by decide +kernel), List.mem_of_getElem? (i := 891) (by decide +kernel), List.mem_of_getElem? (i := 892) (by decide +kernel)⟩
theorem lw_p29 : lw_okq (⟨"ForkPoolModel", "reduced", "(I)J"⟩, 33) := ⟨⟨by decide +kernel, by decide +kernel⟩, List.mem_of_getElem? (i := 712) (by decide +kernel), List.mem_of_getElem? (i := 895) (by decide +kernel), List.mem_of_getElem? (i := 896) (by decide +kernel)⟩
theorem lw_p30 : lw_okq (⟨"ForkPoolModel", "spread", "(I)V"⟩, 33) := ⟨⟨by decide +kernel, by decide +kernel⟩, List.mem_of_getElem? (i := 712) (by decide +kernel), List.mem_of_getElem? (i := 899) (by decide +kernel), List.mem_of_getElem? (i := 900) (by decide +kernel)⟩
theorem lw_p31 : lw_okq (⟨"ForkPoolModel", "order", "(III)V"⟩, 33) := ⟨⟨by decide +kernel, by decide +kernel⟩, List.mem_of_getElem? (i := 712) (by decide +kernel), List.mem_of_getElem? (i := 903) (by decide +kernel), List.mem_of_getElem? (i := 904) (by decide +kernel)⟩
def lw_privs_2 : List (MethodName × Nat) := [(⟨"ForkPool", "queuedTasks", "(LForkPool$Job;)I"⟩, 7), (⟨"ForkPool", "workerAt", "(I)LForkPool$Worker;"⟩, 7), (⟨"ForkPoolModel", "raise", "(I)I"⟩, 33), (⟨"ForkPoolModel", "busy", "(I)Z"⟩, 33), (⟨"ForkPoolModel", "noElement", "(II)Z"⟩, 33), (⟨"ForkPoolModel", "node", "(IIII)I"⟩, 33), (⟨"ForkPoolModel", "put", "(II)V"⟩, 33), (⟨"ForkPoolModel", "turns", "()Z"⟩, 33), (⟨"ForkPoolModel", "pull", "(II)I"⟩, 33), (⟨"ForkPoolModel", "perform", "(II)V"⟩, 33), (⟨"ForkPoolModel", "fork", "(II)V"⟩, 33), (⟨"ForkPoolModel", "joined", "(IJJ)J"⟩, 33), (⟨"ForkPoolModel", "leaf", "(I)Z"⟩, 33), (⟨"ForkPoolModel", "reduced", "(I)J"⟩, 33), (⟨"ForkPoolModel", "spread", "(I)V"⟩, 33), (⟨"ForkPoolModel", "order", "(III)V"⟩, 33)]
theorem lw_r2 : ∀ q ∈ lw_privs_2, lw_okq q := List.forall_mem_cons.mpr ⟨lw_p16, List.forall_mem_cons.mpr ⟨lw_p17, List.forall_mem_cons.mpr ⟨lw_p18, List.forall_mem_cons.mpr ⟨lw_p19, List.forall_mem_cons.mpr ⟨lw_p20, List.forall_mem_cons.mpr ⟨lw_p21, List.forall_mem_cons.mpr ⟨lw_p22, List.forall_mem_cons.mpr ⟨lw_p23, List.forall_mem_cons.mpr ⟨lw_p24, List.forall_mem_cons.mpr ⟨lw_p25, List.forall_mem_cons.mpr ⟨lw_p26, List.forall_mem_cons.mpr ⟨lw_p27, List.forall_mem_cons.mpr ⟨lw_p28, List.forall_mem_cons.mpr ⟨lw_p29, List.forall_mem_cons.mpr ⟨lw_p30, List.forall_mem_cons.mpr ⟨lw_p31, fun _ h => absurd h List.not_mem_nil⟩⟩⟩⟩⟩⟩⟩⟩⟩⟩⟩⟩⟩⟩⟩⟩
theorem lw_p32 : lw_okq (⟨"ForkPoolModel", "end", "(II)V"⟩, 33) := ⟨⟨by decide +kernel, by decide +kernel⟩, List.mem_of_getElem? (i := 712) (by decide +kernel), List.mem_of_getElem? (i := 907) (by decide +kernel), List.mem_of_getElem? (i := 908) (by decide +kernel)⟩
theorem lw_p33 : lw_okq (⟨"ForkPoolModel", "mapped", "(IJ)J"⟩, 33) := ⟨⟨by decide +kernel, by decide +kernel⟩, List.mem_of_getElem? (i := 712) (by decide +kernel), List.mem_of_getElem? (i := 911) (by decide +kernel), List.mem_of_getElem? (i := 912) (by decide +kernel)⟩
theorem lw_p34 : lw_okq (⟨"ForkPoolModel", "shared", "(IJ)J"⟩, 33) := ⟨⟨by decide +kernel, by decide +kernel⟩, List.mem_of_getElem? (i := 712) (by decide +kernel), List.mem_of_getElem? (i := 916) (by decide +kernel), List.mem_of_getElem? (i := 917) (by decide +kernel)⟩
theorem lw_p35 : lw_okq (⟨"ForkPoolModel", "finished", "(II)V"⟩, 33) := ⟨⟨by decide +kernel, by decide +kernel⟩, List.mem_of_getElem? (i := 712) (by decide +kernel), List.mem_of_getElem? (i := 924) (by decide +kernel), List.mem_of_getElem? (i := 925) (by decide +kernel)⟩
theorem lw_p36 : lw_okq (⟨"ForkPoolModel", "noJob", "(I)Z"⟩, 33) := ⟨⟨by decide +kernel, by decide +kernel⟩, List.mem_of_getElem? (i := 712) (by decide +kernel), List.mem_of_getElem? (i := 932) (by decide +kernel), List.mem_of_getElem? (i := 933) (by decide +kernel)⟩
theorem lw_p37 : lw_okq (⟨"ForkPoolModel", "inQueues", "(I)I"⟩, 33) := ⟨⟨by decide +kernel, by decide +kernel⟩, List.mem_of_getElem? (i := 712) (by decide +kernel), List.mem_of_getElem? (i := 944) (by decide +kernel), List.mem_of_getElem? (i := 945) (by decide +kernel)⟩
def lw_privs_3 : List (MethodName × Nat) := [(⟨"ForkPoolModel", "end", "(II)V"⟩, 33), (⟨"ForkPoolModel", "mapped", "(IJ)J"⟩, 33), (⟨"ForkPoolModel", "shared", "(IJ)J"⟩, 33), (⟨"ForkPoolModel", "finished", "(II)V"⟩, 33), (⟨"ForkPoolModel", "noJob", "(I)Z"⟩, 33), (⟨"ForkPoolModel", "inQueues", "(I)I"⟩, 33)]
theorem lw_r3 : ∀ q ∈ lw_privs_3, lw_okq q := List.forall_mem_cons.mpr ⟨lw_p32, List.forall_mem_cons.mpr ⟨lw_p33, List.forall_mem_cons.mpr ⟨lw_p34, List.forall_mem_cons.mpr ⟨lw_p35, List.forall_mem_cons.mpr ⟨lw_p36, List.forall_mem_cons.mpr ⟨lw_p37, fun _ h => absurd h List.not_mem_nil⟩⟩⟩⟩⟩⟩
def lw_privs : List (MethodName × Nat) := lw_privs_1 ++ (lw_privs_2 ++ (lw_privs_3))
def lw_tbl : List Cond := k2_sels lw_privs ++ tables_1
theorem lw_privs_ok : ∀ q ∈ lw_privs, lw_okq q := by
  show ∀ q ∈ lw_privs_1 ++ (lw_privs_2 ++ (lw_privs_3)), lw_okq q
  exact List.forall_mem_append.mpr ⟨lw_r1, List.forall_mem_append.mpr ⟨lw_r2, lw_r3⟩⟩
end
section
/-! NAMES: classes, fields, array types, words by program -/
def RFP : String := "ForkPool"
def FFP : u_T := fun k => match k with
  | 0 => ("ForkPool", "rows", "[LForkPool$Row;", true)
  | 1 => ("ForkPool", "workers", "[LForkPool$Worker;", true)
  | 2 => ("ForkPool", "jobs", "[LForkPool$Job;", true)
  | 3 => ("ForkPool", "jobsBegun", "I", false)
  | 4 => ("ForkPool", "stepsMade", "I", false)
  | 5 => ("ForkPool", "nextWorker", "I", false)
  | _ => ("ForkPool", "grain", "I", false)
def tFP : Nat → FieldType := fun k => match k with
  | 0 => (.array (.object "ForkPool$Row"))
  | 1 => (.array (.object "ForkPool$Worker"))
  | 2 => (.array (.object "ForkPool$Job"))
  | 3 => .int
  | 4 => .int
  | 5 => .int
  | _ => .int
def RRow : String := "ForkPool$Row"
def FRow : u_T := fun k => match k with
  | 0 => ("ForkPool$Row", "elements", "[J", true)
  | 1 => ("ForkPool$Row", "type", "I", false)
  | _ => ("ForkPool$Row", "length", "I", false)
def tRow : Nat → FieldType := fun k => match k with
  | 0 => (.array .long)
  | 1 => .int
  | _ => .int
def RJob : String := "ForkPool$Job"
def FJob : u_T := fun k => match k with
  | 0 => ("ForkPool$Job", "number", "I", true)
  | 1 => ("ForkPool$Job", "kind", "I", true)
  | 2 => ("ForkPool$Job", "row", "LForkPool$Row;", true)
  | 3 => ("ForkPool$Job", "c", "I", true)
  | 4 => ("ForkPool$Job", "d", "I", true)
  | 5 => ("ForkPool$Job", "state", "I", false)
  | 6 => ("ForkPool$Job", "failedAt", "I", false)
  | 7 => ("ForkPool$Job", "tasksDone", "I", false)
  | 8 => ("ForkPool$Job", "inSecondRound", "Z", false)
  | _ => ("ForkPool$Job", "result", "J", false)
def tJob : Nat → FieldType := fun k => match k with
  | 0 => .int
  | 1 => .int
  | 2 => (.object "ForkPool$Row")
  | 3 => .int
  | 4 => .int
  | 5 => .int
  | 6 => .int
  | 7 => .int
  | 8 => .boolean
  | _ => .long
def RTask : String := "ForkPool$Task"
def FTask : u_T := fun k => match k with
  | 0 => ("ForkPool$Task", "job", "LForkPool$Job;", true)
  | 1 => ("ForkPool$Task", "parent", "LForkPool$Task;", true)
  | 2 => ("ForkPool$Task", "from", "I", true)
  | 3 => ("ForkPool$Task", "to", "I", true)
  | 4 => ("ForkPool$Task", "first", "LForkPool$Task;", false)
  | 5 => ("ForkPool$Task", "second", "LForkPool$Task;", false)
  | 6 => ("ForkPool$Task", "openParts", "I", false)
  | 7 => ("ForkPool$Task", "result", "J", false)
  | _ => ("ForkPool$Task", "base", "J", false)
def tTask : Nat → FieldType := fun k => match k with
  | 0 => (.object "ForkPool$Job")
  | 1 => (.object "ForkPool$Task")
  | 2 => .int
  | 3 => .int
  | 4 => (.object "ForkPool$Task")
  | 5 => (.object "ForkPool$Task")
  | 6 => .int
  | 7 => .long
  | _ => .long
def RWk : String := "ForkPool$Worker"
def FWk : u_T := fun k => match k with
  | 0 => ("ForkPool$Worker", "queue", "Ljava/util/ArrayList;", true)
  | 1 => ("ForkPool$Worker", "tasksDone", "I", false)
  | 2 => ("ForkPool$Worker", "tasksStolen", "I", false)
  | 3 => ("ForkPool$Worker", "idleSteps", "I", false)
  | _ => ("ForkPool$Worker", "victim", "I", false)
def tWk : Nat → FieldType := fun k => match k with
  | 0 => (.object "java/util/ArrayList")
  | 1 => .int
  | 2 => .int
  | 3 => .int
  | _ => .int
def RAL : String := "java/util/ArrayList"
def FAL : u_T := fun k => match k with
  | 0 => ("java/util/ArrayList", "elementData", "[Ljava/lang/Object;", false)
  | 1 => ("java/util/ArrayList", "size", "I", false)
  | _ => ("java/util/AbstractList", "modCount", "I", false)
def tAL : Nat → FieldType := fun k => match k with
  | 0 => (.array (.object "java/lang/Object"))
  | 1 => .int
  | _ => .int
def RMo : String := "ForkPoolModel"
def FMo : u_T := fun k => match k with
  | 0 => ("ForkPoolModel", "thrown", "I", false)
  | 1 => ("ForkPoolModel", "workers", "I", true)
  | 2 => ("ForkPoolModel", "type", "[I", true)
  | 3 => ("ForkPoolModel", "length", "[I", true)
  | 4 => ("ForkPoolModel", "data", "[J", true)
  | 5 => ("ForkPoolModel", "kind", "[I", true)
  | 6 => ("ForkPoolModel", "on", "[I", true)
  | 7 => ("ForkPoolModel", "c", "[I", true)
  | 8 => ("ForkPoolModel", "d", "[I", true)
  | 9 => ("ForkPoolModel", "state", "[I", true)
  | 10 => ("ForkPoolModel", "failedAt", "[I", true)
  | 11 => ("ForkPoolModel", "did", "[I", true)
  | 12 => ("ForkPoolModel", "root", "[I", true)
  | 13 => ("ForkPoolModel", "round", "[I", true)
  | 14 => ("ForkPoolModel", "jobs", "I", false)
  | 15 => ("ForkPoolModel", "of", "[I", true)
  | 16 => ("ForkPoolModel", "from", "[I", true)
  | 17 => ("ForkPoolModel", "to", "[I", true)
  | 18 => ("ForkPoolModel", "parent", "[I", true)
  | 19 => ("ForkPoolModel", "child", "[I", true)
  | 20 => ("ForkPoolModel", "over", "[I", true)
  | 21 => ("ForkPoolModel", "result", "[J", true)
  | 22 => ("ForkPoolModel", "base", "[J", true)
  | 23 => ("ForkPoolModel", "tasks", "I", false)
  | 24 => ("ForkPoolModel", "queue", "[I", true)
  | 25 => ("ForkPoolModel", "queued", "[I", true)
  | 26 => ("ForkPoolModel", "done", "[I", true)
  | 27 => ("ForkPoolModel", "stolen", "[I", true)
  | 28 => ("ForkPoolModel", "idle", "[I", true)
  | 29 => ("ForkPoolModel", "victim", "[I", true)
  | 30 => ("ForkPoolModel", "grain", "I", false)
  | 31 => ("ForkPoolModel", "steps", "I", false)
  | _ => ("ForkPoolModel", "turn", "I", false)
def tMo : Nat → FieldType := fun k => match k with
  | 0 => .int
  | 1 => .int
  | 2 => (.array .int)
  | 3 => (.array .int)
  | 4 => (.array .long)
  | 5 => (.array .int)
  | 6 => (.array .int)
  | 7 => (.array .int)
  | 8 => (.array .int)
  | 9 => (.array .int)
  | 10 => (.array .int)
  | 11 => (.array .int)
  | 12 => (.array .int)
  | 13 => (.array .int)
  | 14 => .int
  | 15 => (.array .int)
  | 16 => (.array .int)
  | 17 => (.array .int)
  | 18 => (.array .int)
  | 19 => (.array .int)
  | 20 => (.array .int)
  | 21 => (.array .long)
  | 22 => (.array .long)
  | 23 => .int
  | 24 => (.array .int)
  | 25 => (.array .int)
  | 26 => (.array .int)
  | 27 => (.array .int)
  | 28 => (.array .int)
  | 29 => (.array .int)
  | 30 => .int
  | 31 => .int
  | _ => .int
def REIA : String := "java/lang/IllegalArgumentException"
def FEIA : u_T := fun k => match k with
  | _ => ("", "", "", false)
def tEIA : Nat → FieldType := fun k => match k with
  | _ => .int
def REIS : String := "java/lang/IllegalStateException"
def FEIS : u_T := fun k => match k with
  | _ => ("", "", "", false)
def tEIS : Nat → FieldType := fun k => match k with
  | _ => .int
def RENS : String := "java/util/NoSuchElementException"
def FENS : u_T := fun k => match k with
  | _ => ("", "", "", false)
def tENS : Nat → FieldType := fun k => match k with
  | _ => .int
def REAr : String := "java/lang/ArithmeticException"
def FEAr : u_T := fun k => match k with
  | _ => ("", "", "", false)
def tEAr : Nat → FieldType := fun k => match k with
  | _ => .int
def REUn : String := "java/lang/UnsupportedOperationException"
def FEUn : u_T := fun k => match k with
  | _ => ("", "", "", false)
def tEUn : Nat → FieldType := fun k => match k with
  | _ => .int
def fxCl : List vw_C := [(RFP, FFP, 7), (RRow, FRow, 3), (RJob, FJob, 10), (RTask, FTask, 9), (RWk, FWk, 5), (RAL, FAL, 3), (RMo, FMo, 33), (REIA, FEIA, 0), (REIS, FEIS, 0), (RENS, FENS, 0), (REAr, FEAr, 0), (REUn, FEUn, 0)]
def fxAr : List FieldType := [.long, .int, .object "java/lang/Object", .object "ForkPool$Row", .object "ForkPool$Worker", .object "ForkPool$Job"]
def fxok : Cond → Bool
  | .fieldLinkNest .. | .methodLinkNest .. | .castable .. | .declares .. => true
  | .arrayOver (.object _) => true
  | w => goodWord w
def fxTW : List Cond := lw_tbl.filter fxok
theorem fxTW_in {w : Cond} (i : Nat) (h : lw_tbl[i]? = some w) (hk : fxok w = true) : w ∈ fxTW := List.mem_filter.mpr ⟨List.mem_of_getElem? h, hk⟩
theorem fxok_good {w : Cond} (h : goodWord w = true) {args a' : Array Value} {s U : State} (hW : s.WarmedH U.vm) (hb : w.before args s = true) : w.before a' U = true := word_at hW (good_of_word h) hb
theorem fxTW_at {w : Cond} (h : w ∈ fxTW) {args a' : Array Value} {s U : State} (hW : s.WarmedH U.vm) (hb : w.before args s = true) : w.before a' U = true := by
  have hk := (List.mem_filter.mp h).2
  cases w with
  | fieldLinkNest a i b n d h => exact va_Nw.use rfl (va_Nw.warmF hW (va_Nw.of rfl hb))
  | methodLinkNest a i x h => exact va_Nw.use rfl (va_Nw.warmM hW (va_Nw.of rfl hb))
  | castable a b => exact va_Nw.use rfl (va_Nw.warmC hW (va_Nw.of rfl hb))
  | declares x => exact va_Nw.use rfl (va_Nw.warmD hW (va_Nw.of rfl hb))
  | arrayOver ty =>
    cases ty with
    | object C => exact va_AO.use (va_AO.moved hW.alike (va_AO.of hb))
    | _ => (refine fxok_good ?_ hW hb; exact hk)
  | _ => (refine fxok_good ?_ hW hb; exact hk)
theorem inFP : ∀ w ∈ u_ws RFP FFP 7, w ∈ fxTW := by decide +kernel
theorem tyFP : ∀ k, k < 7 → parseFieldDescriptor (FFP k).2.2.1 = some (tFP k) := by decide +kernel
theorem nmFP : ∀ a, a < 7 → ∀ b, b < 7 → a ≠ b → (FFP a).2.1 ≠ (FFP b).2.1 := by decide +kernel
theorem inRow : ∀ w ∈ u_ws RRow FRow 3, w ∈ fxTW := by decide +kernel
theorem tyRow : ∀ k, k < 3 → parseFieldDescriptor (FRow k).2.2.1 = some (tRow k) := by decide +kernel
theorem nmRow : ∀ a, a < 3 → ∀ b, b < 3 → a ≠ b → (FRow a).2.1 ≠ (FRow b).2.1 := by decide +kernel
theorem inJob : ∀ w ∈ u_ws RJob FJob 10, w ∈ fxTW := by decide +kernel
theorem tyJob : ∀ k, k < 10 → parseFieldDescriptor (FJob k).2.2.1 = some (tJob k) := by decide +kernel
theorem nmJob : ∀ a, a < 10 → ∀ b, b < 10 → a ≠ b → (FJob a).2.1 ≠ (FJob b).2.1 := by decide +kernel
theorem inTask : ∀ w ∈ u_ws RTask FTask 9, w ∈ fxTW := by decide +kernel
theorem tyTask : ∀ k, k < 9 → parseFieldDescriptor (FTask k).2.2.1 = some (tTask k) := by decide +kernel
theorem nmTask : ∀ a, a < 9 → ∀ b, b < 9 → a ≠ b → (FTask a).2.1 ≠ (FTask b).2.1 := by decide +kernel
theorem inWk : ∀ w ∈ u_ws RWk FWk 5, w ∈ fxTW := by decide +kernel
theorem tyWk : ∀ k, k < 5 → parseFieldDescriptor (FWk k).2.2.1 = some (tWk k) := by decide +kernel
theorem nmWk : ∀ a, a < 5 → ∀ b, b < 5 → a ≠ b → (FWk a).2.1 ≠ (FWk b).2.1 := by decide +kernel
theorem inAL : ∀ w ∈ u_ws RAL FAL 3, w ∈ fxTW := by decide +kernel
theorem tyAL : ∀ k, k < 3 → parseFieldDescriptor (FAL k).2.2.1 = some (tAL k) := by decide +kernel
theorem nmAL : ∀ a, a < 3 → ∀ b, b < 3 → a ≠ b → (FAL a).2.1 ≠ (FAL b).2.1 := by decide +kernel
theorem inMo : ∀ w ∈ u_ws RMo FMo 33, w ∈ fxTW := by decide +kernel
theorem tyMo : ∀ k, k < 33 → parseFieldDescriptor (FMo k).2.2.1 = some (tMo k) := by decide +kernel
theorem nmMo : ∀ a, a < 33 → ∀ b, b < 33 → a ≠ b → (FMo a).2.1 ≠ (FMo b).2.1 := by decide +kernel
def fxStr : List (String × Nat × String) := [("ForkPool", 50, "array, type or length out of range"), ("ForkPool", 219, "a job on the array is running"), ("ForkPool", 211, "no such array"), ("ForkPool", 213, "no such element"), ("ForkPool", 79, "kind or worker out of range"), ("ForkPool", 81, "c or d out of range"), ("ForkPool", 88, "all jobs were begun"), ("ForkPool", 109, "number of steps out of range"), ("ForkPool", 221, "no such job"), ("ForkPool", 125, "the job has failed"), ("ForkPool", 133, "a job of this kind has no result"), ("ForkPool", 136, "the job is not done"), ("ForkPool", 142, "the job has ended"), ("ForkPool", 158, "no such fact of a job"), ("ForkPool", 223, "no such worker"), ("ForkPool", 170, "no such task"), ("ForkPool", 187, "no such fact of a task"), ("ForkPool", 199, "no such fact of a worker"), ("ForkPool", 201, "grain out of range"), ("ForkPool", 209, "no such count")]
/-- what stays of the start: ArrayList's empty array, the texts, the statics of Throwable -/
def fxO (_ : Launch) (b : Nat) (Hb : Heap) (ad : Nat → Nat) (U : State) : Prop :=
  va_Z "java/util/ArrayList" "DEFAULTCAPACITY_EMPTY_ELEMENTDATA" "[Ljava/lang/Object;" (.ref (ad 0)) (fun q => b ≤ q) U Hb ∧ (∀ q ∈ fxStr, ∃ a, vk_R q.1 q.2.1 q.2.2 a U) ∧
  va_Zq "java/lang/Throwable" "UNASSIGNED_STACK" "[Ljava/lang/StackTraceElement;" (fun q => b ≤ q) U Hb ∧ va_Zq "java/lang/Throwable" "SUPPRESSED_SENTINEL" "Ljava/util/List;" (fun q => b ≤ q) U Hb
theorem fxO_moved {l : Launch} {b : Nat} {Hb : Heap} {ad : Nat → Nat} {u U : State} (hW : u.WarmedH U.vm) (h : fxO l b Hb ad u) : fxO l b Hb ad U :=
  ⟨va_Z.moved hW.alike h.1, fun q hq => by obtain ⟨a, ha⟩ := h.2.1 q hq; exact ⟨a, vk_R.warm hW ha⟩, va_Zq.moved hW.alike h.2.2.1, va_Zq.moved hW.alike h.2.2.2⟩
end
section
/-! THE WORLD AS MAPS. kind of a cell (class number, or 100 + number of the array type, length), fields by number (64 * class + place), elements by array type, the next address, the slots laid so far. -/
abbrev fxW : Type := (Nat → Option (Nat × Nat)) × (Nat → Nat → Value) × (Nat → Nat → Nat → Value) × Nat × Nat
def fxk (w : fxW) : Nat → Option (Nat × Nat) := w.1
def fxf (w : fxW) : Nat → Nat → Value := w.2.1
def fxe (w : fxW) : Nat → Nat → Nat → Value := w.2.2.1
def fxt (w : fxW) : Nat := w.2.2.2.1
def fxu (w : fxW) : Nat := w.2.2.2.2
/-- a field is put -/
def fx_put (w : fxW) (g a : Nat) (v : Value) : fxW := (w.1, fun g' a' => if g' = g then (if a' = a then v else w.2.1 g' a') else w.2.1 g' a', w.2.2)
/-- an element is put -/
def fx_ast (w : fxW) (t a j : Nat) (v : Value) : fxW := (w.1, w.2.1, fun t' a' j' => if t' = t then (if a' = a then (if j' = j then v else w.2.2.1 t' a' j') else w.2.2.1 t' a' j') else w.2.2.1 t' a' j', w.2.2.2)
/-- an object of the class c with n slots is made, its fields by z -/
def fx_new (w : fxW) (c n : Nat) (z : Nat → Value) : fxW := (fun a => if a = w.2.2.2.1 then some (c, 0) else w.1 a, fun g a => if a = w.2.2.2.1 then (if 64 * c ≤ g then z (g - 64 * c) else w.2.1 g a) else w.2.1 g a, w.2.2.1, w.2.2.2.1 + 1, w.2.2.2.2 + n)
/-- an array of the type t and the length n is made, its elements z -/
def fx_newa (w : fxW) (t n : Nat) (z : Value) : fxW := (fun a => if a = w.2.2.2.1 then some (100 + t, n) else w.1 a, w.2.1, fun t' a j => if a = w.2.2.2.1 then z else w.2.2.1 t' a j, w.2.2.2.1 + 1, w.2.2.2.2 + n)
/-- the fixed things: the launch, the classes' numbers and slots, the array classes, the first address that may be written, the heap that was there, the most cells, the most slots, the old addresses -/
abbrev fxG : Type := Launch × va_G × (Nat → ClassId) × Nat × Heap × Nat × Nat × (Nat → Nat)
def fxl (G : fxG) : Launch := G.1
def fxD (G : fxG) : va_G := G.2.1
def fxA (G : fxG) : Nat → ClassId := G.2.2.1
def fxb (G : fxG) : Nat := G.2.2.2.1
def fxHb (G : fxG) : Heap := G.2.2.2.2.1
def fxmt (G : fxG) : Nat := G.2.2.2.2.2.1
def fxmu (G : fxG) : Nat := G.2.2.2.2.2.2.1
def fxad (G : fxG) : Nat → Nat := G.2.2.2.2.2.2.2
/-- the heap holds the world -/
def fxH (G : fxG) (w : fxW) (H : Heap) : Prop :=
  H.size = fxt w ∧ (∀ q : Nat, q < fxb G → H[q]? = (fxHb G)[q]?) ∧ fxb G ≤ fxt w ∧ fxt w ≤ fxmt G ∧ fxu w ≤ fxmu G ∧
  ∀ a c n : Nat, fxk w a = some (c, n) →
    (c < 100 ∧ fxb G ≤ a ∧ ∃ r : vw_C, fxCl[c]? = some r ∧ t_OB a ((fxD G).1 c) r.2.2 ((fxD G).2 c) H (fun k => fxf w (64 * c + k) a)) ∨
    (∃ (t : Nat) (ty : FieldType), t < 100 ∧ ((c = 100 + t ∧ fxb G ≤ a) ∨ c = 200 + t) ∧ fxAr[t]? = some ty ∧ H[a]? = some (arrV (fxA G t) n (fun j => fxe w t a j)))
def fxT (G : fxG) : List (ClassId × FieldType) := (List.range fxAr.length).map fun t => (fxA G t, fxAr.getD t .int)
/-- what the tables say, at a state -/
def fxV (G : fxG) (U : State) : Prop := va_K (fxD G) fxCl (fxT G) U ∧ fxO (fxl G) (fxb G) (fxHb G) (fxad G) U
def fxI (G : fxG) (w : fxW) (U : State) : Prop := fxH G w U.heap ∧ fxV G U
theorem fxV.moved {G : fxG} {u U : State} (hW : u.WarmedH U.vm) (h : fxV G u) : fxV G U := ⟨va_K.moved hW.alike h.1, fxO_moved hW h.2⟩
theorem fxT_at {G : fxG} {t : Nat} {ty : FieldType} (h : fxAr[t]? = some ty) : (fxT G)[t]? = some (fxA G t, ty) := by
  have hl : t < fxAr.length := (List.getElem?_eq_some_iff.mp h).1
  simp [fxT, hl, List.getElem?_map, List.getElem?_range, h]
  exact (List.getElem?_eq_some_iff.mp h).2

/-- the machine's own things: program, environment, room, state at the entry, method, arguments, frames below, method, code, cells and slots at the entry -/
abbrev fxX : Type := Program × Env × Room × State × MethodId × Array Value × List Frame × Method × Code × Nat × Nat
def fxRm (G : fxG) (d : Nat) (w : fxW) : Room := { frames := d, cells := fxmt G - fxt w, slots := fxmu G - fxu w, locals := 38 * d + 20 }
/-- how a method ends -/
def fxE (G : fxG) (t0 u0 : Nat) (P : Outcome → fxW → Prop) (s : State) (o : Outcome) (t : State) : Prop :=
  ∃ w' : fxW, P o w' ∧ fxI G w' t ∧ ∃ (L : List Loc) (k n : Nat), s.WarmedH t.vm ∧ s.sameButNew ({ t with vm := s.vm } : State) L k n ∧ (∀ q ∈ L, fxb G ≤ q.base) ∧ t0 + k = fxt w' ∧ u0 + n = fxu w'
/-- THE CONTRACT: method y with the arguments as, from the world w, ends, and 'P outcome world' -/
def fxM (G : fxG) (d : Nat) (y : MethodName) (as : List Value) (w : fxW) (P : Outcome → fxW → Prop) : Prop :=
  MetFree (fxl G) y (headSpec fxTW (fxRm G d w)) (fun a s => a = as.toArray ∧ fxI G w s) (fun _ _ _ _ _ => True) (fun _ s o t => fxE G (fxt w) (fxu w) P s o t)
/-- what is known inside a method -/
def fxC (G : fxG) (d : Nat) (cc : ByteArray) (nL : Nat) (own nm : String) (ret : Option FieldType) (hh : List (Nat × Nat × Nat × Nat)) (x : fxX) : Prop :=
  match x with
  | (p, e, R, s, m, args, _, meth, c, t0, u0) => p.tables.exec = Jvm.exec ∧ c.code = cc ∧ c.maxLocals = nL ∧ s.vm.findClass own = some m.cls ∧ (∀ w ∈ fxTW, w.before args s = true) ∧ fxV G s ∧ meth.sig.returnType = ret ∧ meth.locks = false ∧ meth.name = nm ∧
    s.heap.size = t0 ∧ t0 + R.cells = fxmt G ∧ u0 + R.slots = fxmu G ∧ d ≤ R.frames ∧ 38 * d + 20 ≤ R.locals ∧ fxb G ≤ t0 ∧ c.exceptionTable.toList.map (fun x => (x.startPc, x.endPc, x.handlerPc, x.catchType)) = hh ∧ (fxl G).admits e
def fxWk (G : fxG) (x : fxX) (H : Heap) (locs : List Loc) (cells slots : Nat) (Q : State → Prop) (pc : Nat) (sl : Array Slot) (st : List Value) : Prop :=
  match x with
  | (p, e, R, s, m, args, below, meth, c, _, _) => W p (fxl G) e R s m args below meth c H locs cells slots Q (F0 m pc sl st)
def fxt0 (x : fxX) : Nat := x.2.2.2.2.2.2.2.2.2.1
def fxu0 (x : fxX) : Nat := x.2.2.2.2.2.2.2.2.2.2
/-- THE WALK: at pc, with the locals ls, the stack st, in the world w -/
def fxR (G : fxG) (nL : Nat) (x : fxX) (Q : State → Prop) (w : fxW) (pc : Nat) (ls : List (Nat × Value)) (st : List Value) : Prop :=
  ∀ (H : Heap) (locs : List Loc) (sl : Array Slot) (cells slots : Nat), fxH G w H → (∀ q ∈ locs, fxb G ≤ q.base) → lv_has sl nL ls → fxt0 x + cells = fxt w → fxu0 x + slots = fxu w → fxWk G x H locs cells slots Q pc sl st
/-- a local -/
def fxL (ls : List (Nat × Value)) (i : Nat) : Option Value := (ls.find? (fun q => q.1 == i)).map (fun q => q.2)
def fxS1 (i : Nat) (v : Value) (ls : List (Nat × Value)) : List (Nat × Value) := (i, v) :: ls.filter (fun q => !(q.1 == i) && !(q.1 + 1 == i && q.2.category == 2))
def fxS2 (i : Nat) (v : Value) (ls : List (Nat × Value)) : List (Nat × Value) := (i, v) :: ls.filter (fun q => !(q.1 == i) && (!(q.1 == i + 1) && !(q.1 + 1 == i && q.2.category == 2)))
theorem fxL_at {sl : Array Slot} {nL : Nat} {ls : List (Nat × Value)} {i : Nat} {v : Value} (h : lv_has sl nL ls) (hl : fxL ls i = some v) : sl[i]? = some (.val v) := by
  unfold fxL at hl
  cases hf : ls.find? (fun q => q.1 == i) with
  | none => rw [hf] at hl; cases hl
  | some q =>
    rw [hf] at hl
    have h1 := List.find?_some hf
    have h2 := List.mem_of_find?_eq_some hf
    have h3 := h.2.2 q h2
    simp at h1 hl
    rw [← h1, ← hl]
    exact h3
theorem fxL_mem {ls : List (Nat × Value)} {i : Nat} {v : Value} (hl : fxL ls i = some v) : (i, v) ∈ ls := by
  unfold fxL at hl
  cases hf : ls.find? (fun q => q.1 == i) with
  | none => rw [hf] at hl; cases hl
  | some q =>
    rw [hf] at hl
    have h1 := List.find?_some hf
    have h2 := List.mem_of_find?_eq_some hf
    simp at h1 hl
    rw [← h1, ← hl]
    exact h2
section FX
variable {G : fxG} {d nL : Nat} {cc : ByteArray} {own nm : String} {ret : Option FieldType} {hh : List (Nat × Nat × Nat × Nat)} {x : fxX} {Q : State → Prop} {w : fxW} {pc : Nat} {ls : List (Nat × Value)} {st : List Value}
/-- fewer locals -/
theorem fx_sub {ls' : List (Nat × Value)} (h : ∀ q ∈ ls', fxL ls q.1 = some q.2) (k : fxR G nL x Q w pc ls' st) : fxR G nL x Q w pc ls st :=
  fun H locs sl cells slots h1 h2 h3 h4 h5 => k H locs sl cells slots h1 h2 ⟨h3.1, h3.2.1, fun q hq => fxL_at h3 (h q hq)⟩ h4 h5
/-- another writing of the same world, stack, place -/
theorem fx_eq {w' : fxW} {st' : List Value} (hw : w = w') (hs : st = st') (k : fxR G nL x Q w' pc ls st') : fxR G nL x Q w pc ls st := by
  subst hw; subst hs; exact k
theorem fx_lift {pc' : Nat} {st' : List Value} (h : ∀ (H : Heap) (locs : List Loc) (sl : Array Slot) (cells slots : Nat), lv_has sl nL ls → fxWk G x H locs cells slots Q pc' sl st' → fxWk G x H locs cells slots Q pc sl st) (k : fxR G nL x Q w pc' ls st') : fxR G nL x Q w pc ls st :=
  fun H locs sl cells slots h1 h2 h3 h4 h5 => h H locs sl cells slots h3 (k H locs sl cells slots h1 h2 h3 h4 h5)
theorem fx_lift2 {A B : Prop} {pc1 pc2 : Nat} {st1 st2 : List Value} (h : ∀ (H : Heap) (locs : List Loc) (sl : Array Slot) (cells slots : Nat), (A → fxWk G x H locs cells slots Q pc1 sl st1) → (B → fxWk G x H locs cells slots Q pc2 sl st2) → fxWk G x H locs cells slots Q pc sl st) (k1 : A → fxR G nL x Q w pc1 ls st1) (k2 : B → fxR G nL x Q w pc2 ls st2) : fxR G nL x Q w pc ls st :=
  fun H locs sl cells slots h1 h2 h3 h4 h5 => h H locs sl cells slots (fun a => k1 a H locs sl cells slots h1 h2 h3 h4 h5) (fun b => k2 b H locs sl cells slots h1 h2 h3 h4 h5)
theorem fx_liftS {ls' : List (Nat × Value)} {pc' : Nat} {st' : List Value} (h : ∀ (H : Heap) (locs : List Loc) (sl : Array Slot) (cells slots : Nat), lv_has sl nL ls → (∀ sl' : Array Slot, lv_has sl' nL ls' → fxWk G x H locs cells slots Q pc' sl' st') → fxWk G x H locs cells slots Q pc sl st) (k : fxR G nL x Q w pc' ls' st') : fxR G nL x Q w pc ls st :=
  fun H locs sl cells slots h1 h2 h3 h4 h5 => h H locs sl cells slots h3 (fun sl' h3' => k H locs sl' cells slots h1 h2 h3' h4 h5)

theorem r_iconst (C : fxC G d cc nL own nm ret hh x) {n : Int} {v : Int32} (hd : decode cc pc = .ok (.iconst n, 1)) (hv : Int32.ofInt n = v) (k : fxR G nL x Q w (pc + 1) ls (.int v :: st)) : fxR G nL x Q w pc ls (st) := by
  obtain ⟨p, e, R, s, m, args, below, meth, c, t0, u0⟩ := x
  obtain ⟨hx, hb, C2⟩ := C
  exact fx_lift (fun H locs sl cells slots h3 kk => lv_iconst hx hb hd hv kk) k
theorem r_bipush (C : fxC G d cc nL own nm ret hh x) {n : Int} {v : Int32} (hd : decode cc pc = .ok (.bipush n, 2)) (hv : (Int8.ofInt n).toInt32 = v) (k : fxR G nL x Q w (pc + 2) ls (.int v :: st)) : fxR G nL x Q w pc ls (st) := by
  obtain ⟨p, e, R, s, m, args, below, meth, c, t0, u0⟩ := x
  obtain ⟨hx, hb, C2⟩ := C
  exact fx_lift (fun H locs sl cells slots h3 kk => lv_bipush hx hb hd hv kk) k
theorem r_sipush (C : fxC G d cc nL own nm ret hh x) {n : Int} {v : Int32} (hd : decode cc pc = .ok (.sipush n, 3)) (hv : (Int16.ofInt n).toInt32 = v) (k : fxR G nL x Q w (pc + 3) ls (.int v :: st)) : fxR G nL x Q w pc ls (st) := by
  obtain ⟨p, e, R, s, m, args, below, meth, c, t0, u0⟩ := x
  obtain ⟨hx, hb, C2⟩ := C
  exact fx_lift (fun H locs sl cells slots h3 kk => lv_sipush hx hb hd hv kk) k
theorem r_lconst (C : fxC G d cc nL own nm ret hh x) {n : Fin 2} {v : Int64} (hd : decode cc pc = .ok (.lconst n, 1)) (hv : Int64.ofNat (n : Nat) = v) (k : fxR G nL x Q w (pc + 1) ls (.long v :: st)) : fxR G nL x Q w pc ls (st) := by
  obtain ⟨p, e, R, s, m, args, below, meth, c, t0, u0⟩ := x
  obtain ⟨hx, hb, C2⟩ := C
  exact fx_lift (fun H locs sl cells slots h3 kk => lv_lconst hx hb hd hv kk) k
theorem r_null (C : fxC G d cc nL own nm ret hh x) (hd : decode cc pc = .ok (.aconst_null, 1)) (k : fxR G nL x Q w (pc + 1) ls (.null :: st)) : fxR G nL x Q w pc ls (st) := by
  obtain ⟨p, e, R, s, m, args, below, meth, c, t0, u0⟩ := x
  obtain ⟨hx, hb, C2⟩ := C
  exact fx_lift (fun H locs sl cells slots h3 kk => lv_null hx hb hd kk) k
theorem r_iload_n (C : fxC G d cc nL own nm ret hh x) {k0 : Fin 4} {i : Nat} {v : Int32} (hd : decode cc pc = .ok (.iload_n k0, 1)) (hi : (k0 : Nat) = i) (hl : fxL ls i = some (.int v)) (k : fxR G nL x Q w (pc + 1) ls (.int v :: st)) : fxR G nL x Q w pc ls (st) := by
  obtain ⟨p, e, R, s, m, args, below, meth, c, t0, u0⟩ := x
  obtain ⟨hx, hb, C2⟩ := C
  exact fx_lift (fun H locs sl cells slots h3 kk => lv_iload_n hx hb hd hi (fxL_at h3 hl) kk) k
theorem r_iload (C : fxC G d cc nL own nm ret hh x) {i : Nat} {v : Int32} (hd : decode cc pc = .ok (.iload i, 2)) (hl : fxL ls i = some (.int v)) (k : fxR G nL x Q w (pc + 2) ls (.int v :: st)) : fxR G nL x Q w pc ls (st) := by
  obtain ⟨p, e, R, s, m, args, below, meth, c, t0, u0⟩ := x
  obtain ⟨hx, hb, C2⟩ := C
  exact fx_lift (fun H locs sl cells slots h3 kk => lv_iload hx hb hd (fxL_at h3 hl) kk) k
theorem r_lload_n (C : fxC G d cc nL own nm ret hh x) {k0 : Fin 4} {i : Nat} {v : Int64} (hd : decode cc pc = .ok (.lload_n k0, 1)) (hi : (k0 : Nat) = i) (hl : fxL ls i = some (.long v)) (k : fxR G nL x Q w (pc + 1) ls (.long v :: st)) : fxR G nL x Q w pc ls (st) := by
  obtain ⟨p, e, R, s, m, args, below, meth, c, t0, u0⟩ := x
  obtain ⟨hx, hb, C2⟩ := C
  exact fx_lift (fun H locs sl cells slots h3 kk => lv_lload_n hx hb hd hi (fxL_at h3 hl) kk) k
theorem r_lload (C : fxC G d cc nL own nm ret hh x) {i : Nat} {v : Int64} (hd : decode cc pc = .ok (.lload i, 2)) (hl : fxL ls i = some (.long v)) (k : fxR G nL x Q w (pc + 2) ls (.long v :: st)) : fxR G nL x Q w pc ls (st) := by
  obtain ⟨p, e, R, s, m, args, below, meth, c, t0, u0⟩ := x
  obtain ⟨hx, hb, C2⟩ := C
  exact fx_lift (fun H locs sl cells slots h3 kk => lv_lload hx hb hd (fxL_at h3 hl) kk) k
theorem r_aload_n (C : fxC G d cc nL own nm ret hh x) {k0 : Fin 4} {i : Nat} {v : Nat} (hd : decode cc pc = .ok (.aload_n k0, 1)) (hi : (k0 : Nat) = i) (hl : fxL ls i = some (.ref v)) (k : fxR G nL x Q w (pc + 1) ls (.ref v :: st)) : fxR G nL x Q w pc ls (st) := by
  obtain ⟨p, e, R, s, m, args, below, meth, c, t0, u0⟩ := x
  obtain ⟨hx, hb, C2⟩ := C
  exact fx_lift (fun H locs sl cells slots h3 kk => lv_aload_n hx hb hd hi (fxL_at h3 hl) kk) k
theorem r_aload (C : fxC G d cc nL own nm ret hh x) {i : Nat} {v : Nat} (hd : decode cc pc = .ok (.aload i, 2)) (hl : fxL ls i = some (.ref v)) (k : fxR G nL x Q w (pc + 2) ls (.ref v :: st)) : fxR G nL x Q w pc ls (st) := by
  obtain ⟨p, e, R, s, m, args, below, meth, c, t0, u0⟩ := x
  obtain ⟨hx, hb, C2⟩ := C
  exact fx_lift (fun H locs sl cells slots h3 kk => lv_aload hx hb hd (fxL_at h3 hl) kk) k
theorem r_aload_nN (C : fxC G d cc nL own nm ret hh x) {k0 : Fin 4} {i : Nat} (hd : decode cc pc = .ok (.aload_n k0, 1)) (hi : (k0 : Nat) = i) (hl : fxL ls i = some .null) (k : fxR G nL x Q w (pc + 1) ls (.null :: st)) : fxR G nL x Q w pc ls (st) := by
  obtain ⟨p, e, R, s, m, args, below, meth, c, t0, u0⟩ := x
  obtain ⟨hx, hb, C2⟩ := C
  exact fx_lift (fun H locs sl cells slots h3 kk => lv_aload_nN hx hb hd hi (fxL_at h3 hl) kk) k
theorem r_aloadN (C : fxC G d cc nL own nm ret hh x) {i : Nat} (hd : decode cc pc = .ok (.aload i, 2)) (hl : fxL ls i = some .null) (k : fxR G nL x Q w (pc + 2) ls (.null :: st)) : fxR G nL x Q w pc ls (st) := by
  obtain ⟨p, e, R, s, m, args, below, meth, c, t0, u0⟩ := x
  obtain ⟨hx, hb, C2⟩ := C
  exact fx_lift (fun H locs sl cells slots h3 kk => lv_aloadN hx hb hd (fxL_at h3 hl) kk) k
theorem r_istore_n (C : fxC G d cc nL own nm ret hh x) {k0 : Fin 4} {i : Nat} {v : Int32} {ls' : List (Nat × Value)} (hd : decode cc pc = .ok (.istore_n k0, 1)) (hi : (k0 : Nat) = i) (hn : i < nL) (hl : fxS1 i (.int v) ls = ls') (k : fxR G nL x Q w (pc + 1) ls' st) : fxR G nL x Q w pc ls (.int v :: st) := by
  obtain ⟨p, e, R, s, m, args, below, meth, c, t0, u0⟩ := x
  obtain ⟨hx, hb, C2⟩ := C
  exact fx_liftS (fun H locs sl cells slots h3 kk => lv_istore_n hx hb hd hi h3 hn hl kk) k
theorem r_istore (C : fxC G d cc nL own nm ret hh x) {i : Nat} {v : Int32} {ls' : List (Nat × Value)} (hd : decode cc pc = .ok (.istore i, 2)) (hn : i < nL) (hl : fxS1 i (.int v) ls = ls') (k : fxR G nL x Q w (pc + 2) ls' st) : fxR G nL x Q w pc ls (.int v :: st) := by
  obtain ⟨p, e, R, s, m, args, below, meth, c, t0, u0⟩ := x
  obtain ⟨hx, hb, C2⟩ := C
  exact fx_liftS (fun H locs sl cells slots h3 kk => lv_istore hx hb hd h3 hn hl kk) k
theorem r_lstore_n (C : fxC G d cc nL own nm ret hh x) {k0 : Fin 4} {i : Nat} {v : Int64} {ls' : List (Nat × Value)} (hd : decode cc pc = .ok (.lstore_n k0, 1)) (hi : (k0 : Nat) = i) (hn : i + 1 < nL) (hl : fxS2 i (.long v) ls = ls') (k : fxR G nL x Q w (pc + 1) ls' st) : fxR G nL x Q w pc ls (.long v :: st) := by
  obtain ⟨p, e, R, s, m, args, below, meth, c, t0, u0⟩ := x
  obtain ⟨hx, hb, C2⟩ := C
  exact fx_liftS (fun H locs sl cells slots h3 kk => lv_lstore_n hx hb hd hi h3 hn hl kk) k
theorem r_lstore (C : fxC G d cc nL own nm ret hh x) {i : Nat} {v : Int64} {ls' : List (Nat × Value)} (hd : decode cc pc = .ok (.lstore i, 2)) (hn : i + 1 < nL) (hl : fxS2 i (.long v) ls = ls') (k : fxR G nL x Q w (pc + 2) ls' st) : fxR G nL x Q w pc ls (.long v :: st) := by
  obtain ⟨p, e, R, s, m, args, below, meth, c, t0, u0⟩ := x
  obtain ⟨hx, hb, C2⟩ := C
  exact fx_liftS (fun H locs sl cells slots h3 kk => lv_lstore hx hb hd h3 hn hl kk) k
theorem r_astore_n (C : fxC G d cc nL own nm ret hh x) {k0 : Fin 4} {i : Nat} {v : Nat} {ls' : List (Nat × Value)} (hd : decode cc pc = .ok (.astore_n k0, 1)) (hi : (k0 : Nat) = i) (hn : i < nL) (hl : fxS1 i (.ref v) ls = ls') (k : fxR G nL x Q w (pc + 1) ls' st) : fxR G nL x Q w pc ls (.ref v :: st) := by
  obtain ⟨p, e, R, s, m, args, below, meth, c, t0, u0⟩ := x
  obtain ⟨hx, hb, C2⟩ := C
  exact fx_liftS (fun H locs sl cells slots h3 kk => lv_astore_n hx hb hd hi h3 hn hl kk) k
theorem r_astore (C : fxC G d cc nL own nm ret hh x) {i : Nat} {v : Nat} {ls' : List (Nat × Value)} (hd : decode cc pc = .ok (.astore i, 2)) (hn : i < nL) (hl : fxS1 i (.ref v) ls = ls') (k : fxR G nL x Q w (pc + 2) ls' st) : fxR G nL x Q w pc ls (.ref v :: st) := by
  obtain ⟨p, e, R, s, m, args, below, meth, c, t0, u0⟩ := x
  obtain ⟨hx, hb, C2⟩ := C
  exact fx_liftS (fun H locs sl cells slots h3 kk => lv_astore hx hb hd h3 hn hl kk) k
theorem r_astore_nN (C : fxC G d cc nL own nm ret hh x) {k0 : Fin 4} {i : Nat} {ls' : List (Nat × Value)} (hd : decode cc pc = .ok (.astore_n k0, 1)) (hi : (k0 : Nat) = i) (hn : i < nL) (hl : fxS1 i .null ls = ls') (k : fxR G nL x Q w (pc + 1) ls' st) : fxR G nL x Q w pc ls (.null :: st) := by
  obtain ⟨p, e, R, s, m, args, below, meth, c, t0, u0⟩ := x
  obtain ⟨hx, hb, C2⟩ := C
  exact fx_liftS (fun H locs sl cells slots h3 kk => lv_astore_nN hx hb hd hi h3 hn hl kk) k
theorem r_astoreN (C : fxC G d cc nL own nm ret hh x) {i : Nat} {ls' : List (Nat × Value)} (hd : decode cc pc = .ok (.astore i, 2)) (hn : i < nL) (hl : fxS1 i .null ls = ls') (k : fxR G nL x Q w (pc + 2) ls' st) : fxR G nL x Q w pc ls (.null :: st) := by
  obtain ⟨p, e, R, s, m, args, below, meth, c, t0, u0⟩ := x
  obtain ⟨hx, hb, C2⟩ := C
  exact fx_liftS (fun H locs sl cells slots h3 kk => lv_astoreN hx hb hd h3 hn hl kk) k
theorem r_iinc (C : fxC G d cc nL own nm ret hh x) {i : Nat} {n : Int} {y v : Int32} {ls' : List (Nat × Value)} (hd : decode cc pc = .ok (.iinc i n, 3)) (hy : fxL ls i = some (.int y)) (hv : y + Int32.ofInt n = v) (hn : i < nL) (hl : fxS1 i (.int v) ls = ls') (k : fxR G nL x Q w (pc + 3) ls' st) : fxR G nL x Q w pc ls st := by
  obtain ⟨p, e, R, s, m, args, below, meth, c, t0, u0⟩ := x
  obtain ⟨hx, hb, C2⟩ := C
  obtain ⟨k9, hk9⟩ := List.getElem?_of_mem (fxL_mem hy)
  exact fx_liftS (fun H locs sl cells slots h3 kk => lv_iinc hx hb hd h3 hk9 hv hn hl kk) k
theorem r_iadd (C : fxC G d cc nL own nm ret hh x) {a b : Int32} (hd : decode cc pc = .ok (.iadd, 1)) (k : fxR G nL x Q w (pc + 1) ls (.int (a + b) :: st)) : fxR G nL x Q w pc ls (.int b :: .int a :: st) := by
  obtain ⟨p, e, R, s, m, args, below, meth, c, t0, u0⟩ := x
  obtain ⟨hx, hb, C2⟩ := C
  exact fx_lift (fun H locs sl cells slots h3 kk => lv_iadd hx hb hd kk) k
theorem r_ladd (C : fxC G d cc nL own nm ret hh x) {a b : Int64} (hd : decode cc pc = .ok (.ladd, 1)) (k : fxR G nL x Q w (pc + 1) ls (.long (a + b) :: st)) : fxR G nL x Q w pc ls (.long b :: .long a :: st) := by
  obtain ⟨p, e, R, s, m, args, below, meth, c, t0, u0⟩ := x
  obtain ⟨hx, hb, C2⟩ := C
  exact fx_lift (fun H locs sl cells slots h3 kk => lv_ladd hx hb hd kk) k
theorem r_isub (C : fxC G d cc nL own nm ret hh x) {a b : Int32} (hd : decode cc pc = .ok (.isub, 1)) (k : fxR G nL x Q w (pc + 1) ls (.int (a - b) :: st)) : fxR G nL x Q w pc ls (.int b :: .int a :: st) := by
  obtain ⟨p, e, R, s, m, args, below, meth, c, t0, u0⟩ := x
  obtain ⟨hx, hb, C2⟩ := C
  exact fx_lift (fun H locs sl cells slots h3 kk => lv_isub hx hb hd kk) k
theorem r_lsub (C : fxC G d cc nL own nm ret hh x) {a b : Int64} (hd : decode cc pc = .ok (.lsub, 1)) (k : fxR G nL x Q w (pc + 1) ls (.long (a - b) :: st)) : fxR G nL x Q w pc ls (.long b :: .long a :: st) := by
  obtain ⟨p, e, R, s, m, args, below, meth, c, t0, u0⟩ := x
  obtain ⟨hx, hb, C2⟩ := C
  exact fx_lift (fun H locs sl cells slots h3 kk => lv_lsub hx hb hd kk) k
theorem r_imul (C : fxC G d cc nL own nm ret hh x) {a b : Int32} (hd : decode cc pc = .ok (.imul, 1)) (k : fxR G nL x Q w (pc + 1) ls (.int (a * b) :: st)) : fxR G nL x Q w pc ls (.int b :: .int a :: st) := by
  obtain ⟨p, e, R, s, m, args, below, meth, c, t0, u0⟩ := x
  obtain ⟨hx, hb, C2⟩ := C
  exact fx_lift (fun H locs sl cells slots h3 kk => lv_imul hx hb hd kk) k
theorem r_lmul (C : fxC G d cc nL own nm ret hh x) {a b : Int64} (hd : decode cc pc = .ok (.lmul, 1)) (k : fxR G nL x Q w (pc + 1) ls (.long (a * b) :: st)) : fxR G nL x Q w pc ls (.long b :: .long a :: st) := by
  obtain ⟨p, e, R, s, m, args, below, meth, c, t0, u0⟩ := x
  obtain ⟨hx, hb, C2⟩ := C
  exact fx_lift (fun H locs sl cells slots h3 kk => lv_lmul hx hb hd kk) k
theorem r_iand (C : fxC G d cc nL own nm ret hh x) {a b : Int32} (hd : decode cc pc = .ok (.iand, 1)) (k : fxR G nL x Q w (pc + 1) ls (.int (a &&& b) :: st)) : fxR G nL x Q w pc ls (.int b :: .int a :: st) := by
  obtain ⟨p, e, R, s, m, args, below, meth, c, t0, u0⟩ := x
  obtain ⟨hx, hb, C2⟩ := C
  exact fx_lift (fun H locs sl cells slots h3 kk => lv_iand hx hb hd kk) k
theorem r_land (C : fxC G d cc nL own nm ret hh x) {a b : Int64} (hd : decode cc pc = .ok (.land, 1)) (k : fxR G nL x Q w (pc + 1) ls (.long (a &&& b) :: st)) : fxR G nL x Q w pc ls (.long b :: .long a :: st) := by
  obtain ⟨p, e, R, s, m, args, below, meth, c, t0, u0⟩ := x
  obtain ⟨hx, hb, C2⟩ := C
  exact fx_lift (fun H locs sl cells slots h3 kk => lv_land hx hb hd kk) k
theorem r_ior (C : fxC G d cc nL own nm ret hh x) {a b : Int32} (hd : decode cc pc = .ok (.ior, 1)) (k : fxR G nL x Q w (pc + 1) ls (.int (a ||| b) :: st)) : fxR G nL x Q w pc ls (.int b :: .int a :: st) := by
  obtain ⟨p, e, R, s, m, args, below, meth, c, t0, u0⟩ := x
  obtain ⟨hx, hb, C2⟩ := C
  exact fx_lift (fun H locs sl cells slots h3 kk => lv_ior hx hb hd kk) k
theorem r_lor (C : fxC G d cc nL own nm ret hh x) {a b : Int64} (hd : decode cc pc = .ok (.lor, 1)) (k : fxR G nL x Q w (pc + 1) ls (.long (a ||| b) :: st)) : fxR G nL x Q w pc ls (.long b :: .long a :: st) := by
  obtain ⟨p, e, R, s, m, args, below, meth, c, t0, u0⟩ := x
  obtain ⟨hx, hb, C2⟩ := C
  exact fx_lift (fun H locs sl cells slots h3 kk => lv_lor hx hb hd kk) k
theorem r_ixor (C : fxC G d cc nL own nm ret hh x) {a b : Int32} (hd : decode cc pc = .ok (.ixor, 1)) (k : fxR G nL x Q w (pc + 1) ls (.int (a ^^^ b) :: st)) : fxR G nL x Q w pc ls (.int b :: .int a :: st) := by
  obtain ⟨p, e, R, s, m, args, below, meth, c, t0, u0⟩ := x
  obtain ⟨hx, hb, C2⟩ := C
  exact fx_lift (fun H locs sl cells slots h3 kk => lv_ixor hx hb hd kk) k
theorem r_lxor (C : fxC G d cc nL own nm ret hh x) {a b : Int64} (hd : decode cc pc = .ok (.lxor, 1)) (k : fxR G nL x Q w (pc + 1) ls (.long (a ^^^ b) :: st)) : fxR G nL x Q w pc ls (.long b :: .long a :: st) := by
  obtain ⟨p, e, R, s, m, args, below, meth, c, t0, u0⟩ := x
  obtain ⟨hx, hb, C2⟩ := C
  exact fx_lift (fun H locs sl cells slots h3 kk => lv_lxor hx hb hd kk) k
theorem r_idiv (C : fxC G d cc nL own nm ret hh x) {a b : Int32} (hd : decode cc pc = .ok (.idiv, 1)) (hne : ¬ b = 0) (k : fxR G nL x Q w (pc + 1) ls (.int (a / b) :: st)) : fxR G nL x Q w pc ls (.int b :: .int a :: st) := by
  obtain ⟨p, e, R, s, m, args, below, meth, c, t0, u0⟩ := x
  obtain ⟨hx, hb, C2⟩ := C
  exact fx_lift (fun H locs sl cells slots h3 kk => lv_idiv hx hb hd hne kk) k
theorem r_irem (C : fxC G d cc nL own nm ret hh x) {a b : Int32} (hd : decode cc pc = .ok (.irem, 1)) (hne : ¬ b = 0) (k : fxR G nL x Q w (pc + 1) ls (.int (a - a / b * b) :: st)) : fxR G nL x Q w pc ls (.int b :: .int a :: st) := by
  obtain ⟨p, e, R, s, m, args, below, meth, c, t0, u0⟩ := x
  obtain ⟨hx, hb, C2⟩ := C
  exact fx_lift (fun H locs sl cells slots h3 kk => lv_irem hx hb hd hne kk) k
theorem r_ldiv (C : fxC G d cc nL own nm ret hh x) {a b : Int64} (hd : decode cc pc = .ok (.ldiv, 1)) (hne : ¬ b = 0) (k : fxR G nL x Q w (pc + 1) ls (.long (a / b) :: st)) : fxR G nL x Q w pc ls (.long b :: .long a :: st) := by
  obtain ⟨p, e, R, s, m, args, below, meth, c, t0, u0⟩ := x
  obtain ⟨hx, hb, C2⟩ := C
  exact fx_lift (fun H locs sl cells slots h3 kk => lv_ldiv hx hb hd hne kk) k
theorem r_lrem (C : fxC G d cc nL own nm ret hh x) {a b : Int64} (hd : decode cc pc = .ok (.lrem, 1)) (hne : ¬ b = 0) (k : fxR G nL x Q w (pc + 1) ls (.long (a - a / b * b) :: st)) : fxR G nL x Q w pc ls (.long b :: .long a :: st) := by
  obtain ⟨p, e, R, s, m, args, below, meth, c, t0, u0⟩ := x
  obtain ⟨hx, hb, C2⟩ := C
  exact fx_lift (fun H locs sl cells slots h3 kk => lv_lrem hx hb hd hne kk) k
theorem r_i2l (C : fxC G d cc nL own nm ret hh x) {a : Int32} {v : Int64} (hd : decode cc pc = .ok (.i2l, 1)) (hv : a.toInt64 = v) (k : fxR G nL x Q w (pc + 1) ls (.long v :: st)) : fxR G nL x Q w pc ls (.int a :: st) := by
  obtain ⟨p, e, R, s, m, args, below, meth, c, t0, u0⟩ := x
  obtain ⟨hx, hb, C2⟩ := C
  exact fx_lift (fun H locs sl cells slots h3 kk => lv_i2l hx hb hd hv kk) k
theorem r_l2i (C : fxC G d cc nL own nm ret hh x) {a : Int64} {v : Int32} (hd : decode cc pc = .ok (.l2i, 1)) (hv : a.toInt32 = v) (k : fxR G nL x Q w (pc + 1) ls (.int v :: st)) : fxR G nL x Q w pc ls (.long a :: st) := by
  obtain ⟨p, e, R, s, m, args, below, meth, c, t0, u0⟩ := x
  obtain ⟨hx, hb, C2⟩ := C
  exact fx_lift (fun H locs sl cells slots h3 kk => lv_l2i hx hb hd hv kk) k
theorem r_i2b (C : fxC G d cc nL own nm ret hh x) {a : Int32} {v : Int32} (hd : decode cc pc = .ok (.i2b, 1)) (hv : a.toInt8.toInt32 = v) (k : fxR G nL x Q w (pc + 1) ls (.int v :: st)) : fxR G nL x Q w pc ls (.int a :: st) := by
  obtain ⟨p, e, R, s, m, args, below, meth, c, t0, u0⟩ := x
  obtain ⟨hx, hb, C2⟩ := C
  exact fx_lift (fun H locs sl cells slots h3 kk => lv_i2b hx hb hd hv kk) k
theorem r_i2s (C : fxC G d cc nL own nm ret hh x) {a : Int32} {v : Int32} (hd : decode cc pc = .ok (.i2s, 1)) (hv : a.toInt16.toInt32 = v) (k : fxR G nL x Q w (pc + 1) ls (.int v :: st)) : fxR G nL x Q w pc ls (.int a :: st) := by
  obtain ⟨p, e, R, s, m, args, below, meth, c, t0, u0⟩ := x
  obtain ⟨hx, hb, C2⟩ := C
  exact fx_lift (fun H locs sl cells slots h3 kk => lv_i2s hx hb hd hv kk) k
theorem r_dup (C : fxC G d cc nL own nm ret hh x) {a : Value} (hd : decode cc pc = .ok (.dup, 1)) (ha : a.category = 1) (k : fxR G nL x Q w (pc + 1) ls (a :: a :: st)) : fxR G nL x Q w pc ls (a :: st) := by
  obtain ⟨p, e, R, s, m, args, below, meth, c, t0, u0⟩ := x
  obtain ⟨hx, hb, C2⟩ := C
  exact fx_lift (fun H locs sl cells slots h3 kk => lv_dup hx hb hd ha kk) k
theorem r_lcmp (C : fxC G d cc nL own nm ret hh x) {a b : Int64} (hd : decode cc pc = .ok (.lcmp, 1)) (k : fxR G nL x Q w (pc + 1) ls (.int (lg_cmp a b) :: st)) : fxR G nL x Q w pc ls (.long b :: .long a :: st) := by
  obtain ⟨p, e, R, s, m, args, below, meth, c, t0, u0⟩ := x
  obtain ⟨hx, hb, C2⟩ := C
  exact fx_lift (fun H locs sl cells slots h3 kk => W.lcmp hx hb hd kk) k
theorem r_if_eq (C : fxC G d cc nL own nm ret hh x) {a : Int32} {off : Int} {tgt : Nat} (hd : decode cc pc = .ok (.ifCond .eq off, 3)) (ht : (pc : Int) + off = (tgt : Int)) (k1 : a = 0 → fxR G nL x Q w tgt ls st) (k2 : ¬ a = 0 → fxR G nL x Q w (pc + 3) ls st) : fxR G nL x Q w pc ls (.int a :: st) := by
  obtain ⟨p, e, R, s, m, args, below, meth, c, t0, u0⟩ := x
  obtain ⟨hx, hb, C2⟩ := C
  exact fx_lift2 (fun H locs sl cells slots q1 q2 => lv_if_eq hx hb hd ht q1 q2) k1 k2
theorem r_icmp_eq (C : fxC G d cc nL own nm ret hh x) {a b : Int32} {off : Int} {tgt : Nat} (hd : decode cc pc = .ok (.if_icmp .eq off, 3)) (ht : (pc : Int) + off = (tgt : Int)) (k1 : a = b → fxR G nL x Q w tgt ls st) (k2 : ¬ a = b → fxR G nL x Q w (pc + 3) ls st) : fxR G nL x Q w pc ls (.int b :: .int a :: st) := by
  obtain ⟨p, e, R, s, m, args, below, meth, c, t0, u0⟩ := x
  obtain ⟨hx, hb, C2⟩ := C
  exact fx_lift2 (fun H locs sl cells slots q1 q2 => lv_icmp_eq hx hb hd ht q1 q2) k1 k2
theorem r_if_ne (C : fxC G d cc nL own nm ret hh x) {a : Int32} {off : Int} {tgt : Nat} (hd : decode cc pc = .ok (.ifCond .ne off, 3)) (ht : (pc : Int) + off = (tgt : Int)) (k1 : ¬ a = 0 → fxR G nL x Q w tgt ls st) (k2 : a = 0 → fxR G nL x Q w (pc + 3) ls st) : fxR G nL x Q w pc ls (.int a :: st) := by
  obtain ⟨p, e, R, s, m, args, below, meth, c, t0, u0⟩ := x
  obtain ⟨hx, hb, C2⟩ := C
  exact fx_lift2 (fun H locs sl cells slots q1 q2 => lv_if_ne hx hb hd ht q1 q2) k1 k2
theorem r_icmp_ne (C : fxC G d cc nL own nm ret hh x) {a b : Int32} {off : Int} {tgt : Nat} (hd : decode cc pc = .ok (.if_icmp .ne off, 3)) (ht : (pc : Int) + off = (tgt : Int)) (k1 : ¬ a = b → fxR G nL x Q w tgt ls st) (k2 : a = b → fxR G nL x Q w (pc + 3) ls st) : fxR G nL x Q w pc ls (.int b :: .int a :: st) := by
  obtain ⟨p, e, R, s, m, args, below, meth, c, t0, u0⟩ := x
  obtain ⟨hx, hb, C2⟩ := C
  exact fx_lift2 (fun H locs sl cells slots q1 q2 => lv_icmp_ne hx hb hd ht q1 q2) k1 k2
theorem r_if_lt (C : fxC G d cc nL own nm ret hh x) {a : Int32} {off : Int} {tgt : Nat} (hd : decode cc pc = .ok (.ifCond .lt off, 3)) (ht : (pc : Int) + off = (tgt : Int)) (k1 : a < 0 → fxR G nL x Q w tgt ls st) (k2 : ¬ a < 0 → fxR G nL x Q w (pc + 3) ls st) : fxR G nL x Q w pc ls (.int a :: st) := by
  obtain ⟨p, e, R, s, m, args, below, meth, c, t0, u0⟩ := x
  obtain ⟨hx, hb, C2⟩ := C
  exact fx_lift2 (fun H locs sl cells slots q1 q2 => lv_if_lt hx hb hd ht q1 q2) k1 k2
theorem r_icmp_lt (C : fxC G d cc nL own nm ret hh x) {a b : Int32} {off : Int} {tgt : Nat} (hd : decode cc pc = .ok (.if_icmp .lt off, 3)) (ht : (pc : Int) + off = (tgt : Int)) (k1 : a < b → fxR G nL x Q w tgt ls st) (k2 : ¬ a < b → fxR G nL x Q w (pc + 3) ls st) : fxR G nL x Q w pc ls (.int b :: .int a :: st) := by
  obtain ⟨p, e, R, s, m, args, below, meth, c, t0, u0⟩ := x
  obtain ⟨hx, hb, C2⟩ := C
  exact fx_lift2 (fun H locs sl cells slots q1 q2 => lv_icmp_lt hx hb hd ht q1 q2) k1 k2
theorem r_if_ge (C : fxC G d cc nL own nm ret hh x) {a : Int32} {off : Int} {tgt : Nat} (hd : decode cc pc = .ok (.ifCond .ge off, 3)) (ht : (pc : Int) + off = (tgt : Int)) (k1 : 0 ≤ a → fxR G nL x Q w tgt ls st) (k2 : ¬ 0 ≤ a → fxR G nL x Q w (pc + 3) ls st) : fxR G nL x Q w pc ls (.int a :: st) := by
  obtain ⟨p, e, R, s, m, args, below, meth, c, t0, u0⟩ := x
  obtain ⟨hx, hb, C2⟩ := C
  exact fx_lift2 (fun H locs sl cells slots q1 q2 => lv_if_ge hx hb hd ht q1 q2) k1 k2
theorem r_icmp_ge (C : fxC G d cc nL own nm ret hh x) {a b : Int32} {off : Int} {tgt : Nat} (hd : decode cc pc = .ok (.if_icmp .ge off, 3)) (ht : (pc : Int) + off = (tgt : Int)) (k1 : b ≤ a → fxR G nL x Q w tgt ls st) (k2 : ¬ b ≤ a → fxR G nL x Q w (pc + 3) ls st) : fxR G nL x Q w pc ls (.int b :: .int a :: st) := by
  obtain ⟨p, e, R, s, m, args, below, meth, c, t0, u0⟩ := x
  obtain ⟨hx, hb, C2⟩ := C
  exact fx_lift2 (fun H locs sl cells slots q1 q2 => lv_icmp_ge hx hb hd ht q1 q2) k1 k2
theorem r_if_gt (C : fxC G d cc nL own nm ret hh x) {a : Int32} {off : Int} {tgt : Nat} (hd : decode cc pc = .ok (.ifCond .gt off, 3)) (ht : (pc : Int) + off = (tgt : Int)) (k1 : 0 < a → fxR G nL x Q w tgt ls st) (k2 : ¬ 0 < a → fxR G nL x Q w (pc + 3) ls st) : fxR G nL x Q w pc ls (.int a :: st) := by
  obtain ⟨p, e, R, s, m, args, below, meth, c, t0, u0⟩ := x
  obtain ⟨hx, hb, C2⟩ := C
  exact fx_lift2 (fun H locs sl cells slots q1 q2 => lv_if_gt hx hb hd ht q1 q2) k1 k2
theorem r_icmp_gt (C : fxC G d cc nL own nm ret hh x) {a b : Int32} {off : Int} {tgt : Nat} (hd : decode cc pc = .ok (.if_icmp .gt off, 3)) (ht : (pc : Int) + off = (tgt : Int)) (k1 : b < a → fxR G nL x Q w tgt ls st) (k2 : ¬ b < a → fxR G nL x Q w (pc + 3) ls st) : fxR G nL x Q w pc ls (.int b :: .int a :: st) := by
  obtain ⟨p, e, R, s, m, args, below, meth, c, t0, u0⟩ := x
  obtain ⟨hx, hb, C2⟩ := C
  exact fx_lift2 (fun H locs sl cells slots q1 q2 => lv_icmp_gt hx hb hd ht q1 q2) k1 k2
theorem r_if_le (C : fxC G d cc nL own nm ret hh x) {a : Int32} {off : Int} {tgt : Nat} (hd : decode cc pc = .ok (.ifCond .le off, 3)) (ht : (pc : Int) + off = (tgt : Int)) (k1 : a ≤ 0 → fxR G nL x Q w tgt ls st) (k2 : ¬ a ≤ 0 → fxR G nL x Q w (pc + 3) ls st) : fxR G nL x Q w pc ls (.int a :: st) := by
  obtain ⟨p, e, R, s, m, args, below, meth, c, t0, u0⟩ := x
  obtain ⟨hx, hb, C2⟩ := C
  exact fx_lift2 (fun H locs sl cells slots q1 q2 => lv_if_le hx hb hd ht q1 q2) k1 k2
theorem r_icmp_le (C : fxC G d cc nL own nm ret hh x) {a b : Int32} {off : Int} {tgt : Nat} (hd : decode cc pc = .ok (.if_icmp .le off, 3)) (ht : (pc : Int) + off = (tgt : Int)) (k1 : a ≤ b → fxR G nL x Q w tgt ls st) (k2 : ¬ a ≤ b → fxR G nL x Q w (pc + 3) ls st) : fxR G nL x Q w pc ls (.int b :: .int a :: st) := by
  obtain ⟨p, e, R, s, m, args, below, meth, c, t0, u0⟩ := x
  obtain ⟨hx, hb, C2⟩ := C
  exact fx_lift2 (fun H locs sl cells slots q1 q2 => lv_icmp_le hx hb hd ht q1 q2) k1 k2
theorem r_acmp_eq (C : fxC G d cc nL own nm ret hh x) {ra rb : Option Nat} {off : Int} {tgt : Nat} (hd : decode cc pc = .ok (.if_acmp .eq off, 3)) (ht : (pc : Int) + off = (tgt : Int)) (k1 : ra = rb → fxR G nL x Q w tgt ls st) (k2 : ¬ ra = rb → fxR G nL x Q w (pc + 3) ls st) : fxR G nL x Q w pc ls (va_rf rb :: va_rf ra :: st) := by
  obtain ⟨p, e, R, s, m, args, below, meth, c, t0, u0⟩ := x
  obtain ⟨hx, hb, C2⟩ := C
  exact fx_lift2 (fun H locs sl cells slots q1 q2 => lv_acmp_eq hx hb hd ht q1 q2) k1 k2
theorem r_acmp_ne (C : fxC G d cc nL own nm ret hh x) {ra rb : Option Nat} {off : Int} {tgt : Nat} (hd : decode cc pc = .ok (.if_acmp .ne off, 3)) (ht : (pc : Int) + off = (tgt : Int)) (k1 : ¬ ra = rb → fxR G nL x Q w tgt ls st) (k2 : ra = rb → fxR G nL x Q w (pc + 3) ls st) : fxR G nL x Q w pc ls (va_rf rb :: va_rf ra :: st) := by
  obtain ⟨p, e, R, s, m, args, below, meth, c, t0, u0⟩ := x
  obtain ⟨hx, hb, C2⟩ := C
  exact fx_lift2 (fun H locs sl cells slots q1 q2 => lv_acmp_ne hx hb hd ht q1 q2) k1 k2
theorem r_goto (C : fxC G d cc nL own nm ret hh x) {off : Int} {tgt : Nat} (hd : decode cc pc = .ok (.goto off, 3)) (ht : (pc : Int) + off = (tgt : Int)) (k : fxR G nL x Q w tgt ls st) : fxR G nL x Q w pc ls st := by
  obtain ⟨p, e, R, s, m, args, below, meth, c, t0, u0⟩ := x
  obtain ⟨hx, hb, C2⟩ := C
  exact fx_lift (fun H locs sl cells slots h3 kk => lv_goto hx hb hd ht kk) k
theorem r_ifnonnull (C : fxC G d cc nL own nm ret hh x) {a : Nat} {off : Int} {tgt : Nat} (hd : decode cc pc = .ok (.ifnonnull off, 3)) (ht : (pc : Int) + off = (tgt : Int)) (k : fxR G nL x Q w tgt ls st) : fxR G nL x Q w pc ls (.ref a :: st) := by
  obtain ⟨p, e, R, s, m, args, below, meth, c, t0, u0⟩ := x
  obtain ⟨hx, hb, C2⟩ := C
  exact fx_lift (fun H locs sl cells slots h3 kk => lv_ifnonnull hx hb hd ht kk) k
theorem r_ifnonnullN (C : fxC G d cc nL own nm ret hh x) {off : Int} (hd : decode cc pc = .ok (.ifnonnull off, 3)) (k : fxR G nL x Q w (pc + 3) ls st) : fxR G nL x Q w pc ls (.null :: st) := by
  obtain ⟨p, e, R, s, m, args, below, meth, c, t0, u0⟩ := x
  obtain ⟨hx, hb, C2⟩ := C
  exact fx_lift (fun H locs sl cells slots h3 kk => lv_ifnonnullN hx hb hd kk) k
theorem r_ifnull (C : fxC G d cc nL own nm ret hh x) {a : Nat} {off : Int} (hd : decode cc pc = .ok (.ifnull off, 3)) (k : fxR G nL x Q w (pc + 3) ls st) : fxR G nL x Q w pc ls (.ref a :: st) := by
  obtain ⟨p, e, R, s, m, args, below, meth, c, t0, u0⟩ := x
  obtain ⟨hx, hb, C2⟩ := C
  exact fx_lift (fun H locs sl cells slots h3 kk => lv_ifnull hx hb hd kk) k
theorem r_ifnullN (C : fxC G d cc nL own nm ret hh x) {off : Int} {tgt : Nat} (hd : decode cc pc = .ok (.ifnull off, 3)) (ht : (pc : Int) + off = (tgt : Int)) (k : fxR G nL x Q w tgt ls st) : fxR G nL x Q w pc ls (.null :: st) := by
  obtain ⟨p, e, R, s, m, args, below, meth, c, t0, u0⟩ := x
  obtain ⟨hx, hb, C2⟩ := C
  exact fx_lift (fun H locs sl cells slots h3 kk => lv_ifnullN hx hb hd ht kk) k
theorem r_tableOut (C : fxC G d cc nL own nm ret hh x) {dflt lo hi : Int} {offs : Array Int} {len : Nat} {a : Int32} {tgt : Nat} (hd : decode cc pc = .ok (.tableswitch dflt lo hi offs, len)) (h : a.toInt < lo ∨ hi < a.toInt) (ht : (pc : Int) + dflt = (tgt : Int)) (k : fxR G nL x Q w tgt ls st) : fxR G nL x Q w pc ls (.int a :: st) := by
  obtain ⟨p, e, R, s, m, args, below, meth, c, t0, u0⟩ := x
  obtain ⟨hx, hb, C2⟩ := C
  exact fx_lift (fun H locs sl cells slots h3 kk => lv_tableOut hx hb hd h ht kk) k
theorem r_tableIn (C : fxC G d cc nL own nm ret hh x) {dflt lo hi : Int} {offs : Array Int} {len : Nat} {a : Int32} {off : Int} {tgt : Nat} (hd : decode cc pc = .ok (.tableswitch dflt lo hi offs, len)) (h1 : ¬ a.toInt < lo) (h2 : ¬ hi < a.toInt) (ho : offs[(a.toInt - lo).toNat]? = some off) (ht : (pc : Int) + off = (tgt : Int)) (k : fxR G nL x Q w tgt ls st) : fxR G nL x Q w pc ls (.int a :: st) := by
  obtain ⟨p, e, R, s, m, args, below, meth, c, t0, u0⟩ := x
  obtain ⟨hx, hb, C2⟩ := C
  exact fx_lift (fun H locs sl cells slots h3 kk => lv_tableIn hx hb hd h1 h2 ho ht kk) k
theorem r_lookup (C : fxC G d cc nL own nm ret hh x) {dflt : Int} {ps : Array (Int × Int)} {len : Nat} {a : Int32} {off : Int} {tgt : Nat} (hd : decode cc pc = .ok (.lookupswitch dflt ps, len)) (hp : (ps.toList.zip (ps.toList.drop 1)).all (fun (a, next) => a.1 < next.1) = true) (ho : Op.lookupswitch.offset ps.toList dflt a.toInt = off) (ht : (pc : Int) + off = (tgt : Int)) (k : fxR G nL x Q w tgt ls st) : fxR G nL x Q w pc ls (.int a :: st) := by
  obtain ⟨p, e, R, s, m, args, below, meth, c, t0, u0⟩ := x
  obtain ⟨hx, hb, C2⟩ := C
  exact fx_lift (fun H locs sl cells slots h3 kk => lv_lookup hx hb hd hp ho ht kk) k
end FX
end
section
/-! ROWS OVER THE HEAP -/
def fxQ (G : fxG) (x : fxX) (P : Outcome → fxW → Prop) : State → Prop :=
  match x with
  | (_, _, _, s, _, _, below, _, _, t0, u0) => fun t => ∃ o, t.status = .running ∧ Ended t below o ∧ fxE G t0 u0 P s o t
theorem fxH.obj {G : fxG} {w : fxW} {H : Heap} {a c n : Nat} (h : fxH G w H) (hk : fxk w a = some (c, n)) (hc : c < 100) : fxb G ≤ a ∧ ∃ r : vw_C, fxCl[c]? = some r ∧ t_OB a ((fxD G).1 c) r.2.2 ((fxD G).2 c) H (fun k => fxf w (64 * c + k) a) := by
  rcases h.2.2.2.2.2 a c n hk with ⟨-, h1, h2⟩ | ⟨t, ty, -, h1, -⟩
  · exact ⟨h1, h2⟩
  · omega
theorem fxH.arr {G : fxG} {w : fxW} {H : Heap} {a t n : Nat} (h : fxH G w H) (ht : t < 100) (hk : fxk w a = some (100 + t, n)) : fxb G ≤ a ∧ ∃ ty : FieldType, fxAr[t]? = some ty ∧ H[a]? = some (arrV (fxA G t) n (fun j => fxe w t a j)) := by
  rcases h.2.2.2.2.2 a _ n hk with ⟨h0, -⟩ | ⟨t', ty, h0, h1, h2, h3⟩
  · omega
  · rcases h1 with ⟨h1, h4⟩ | h1
    · have e : t = t' := by omega
      subst e
      exact ⟨h4, ty, h2, h3⟩
    · omega
theorem fxH.rarr {G : fxG} {w : fxW} {H : Heap} {a t n : Nat} (h : fxH G w H) (ht : t < 100) (hk : fxk w a = some (100 + t, n) ∨ fxk w a = some (200 + t, n)) : ∃ ty : FieldType, fxAr[t]? = some ty ∧ H[a]? = some (arrV (fxA G t) n (fun j => fxe w t a j)) := by
  rcases hk with hk | hk
  · exact (h.arr ht hk).2
  · rcases h.2.2.2.2.2 a _ n hk with ⟨h0, -⟩ | ⟨t', ty, h0, h1, h2, h3⟩
    · omega
    · rcases h1 with ⟨h1, h4⟩ | h1
      · omega
      · have e : t = t' := by omega
        subst e
        exact ⟨ty, h2, h3⟩
theorem fxH.lt {G : fxG} {w : fxW} {H : Heap} {a : Nat} {q : Nat × Nat} (h : fxH G w H) (hk : fxk w a = some q) : a < fxt w := by
  obtain ⟨c, n⟩ := q
  rw [← h.1]
  rcases h.2.2.2.2.2 a c n hk with ⟨-, -, r, -, cell, h1, -⟩ | ⟨t, ty, -, -, -, h1⟩
  · exact (Array.getElem?_eq_some_iff.mp h1).1
  · exact (Array.getElem?_eq_some_iff.mp h1).1
theorem fxH.put {G : fxG} {w : fxW} {H H' : Heap} {a c n k0 : Nat} {v : Value} (h : fxH G w H) (hk : fxk w a = some (c, n)) (hc : c < 100) (hz : H'.size = H.size) (ho : ∀ q : Nat, q ≠ a → H'[q]? = H[q]?)
    (hn : ∀ r : vw_C, fxCl[c]? = some r → t_OB a ((fxD G).1 c) r.2.2 ((fxD G).2 c) H' (updV (fun k => fxf w (64 * c + k) a) k0 v)) : fxH G (fx_put w (64 * c + k0) a v) H' := by
  obtain ⟨hba, r, hr, -⟩ := h.obj hk hc
  refine ⟨hz.trans h.1, fun q hq => (ho q (by omega)).trans (h.2.1 q hq), h.2.2.1, h.2.2.2.1, h.2.2.2.2.1, fun b c' n' hb => ?_⟩
  have hb' : fxk w b = some (c', n') := hb
  by_cases hab : b = a
  · subst hab
    cases hb'.symm.trans hk
    refine Or.inl ⟨hc, hba, r, hr, (hn r hr).to fun k _ => ?_⟩
    show updV _ k0 v k = (if 64 * c + k = 64 * c + k0 then (if b = b then v else w.2.1 (64 * c + k) b) else w.2.1 (64 * c + k) b)
    by_cases hkk : k = k0
    · subst hkk; simp [updV]
    · rw [if_neg (by omega)]; simp [updV, hkk]; rfl
  · rcases h.2.2.2.2.2 b c' n' hb' with ⟨h1, h2, r', h3, h4⟩ | ⟨t, ty, h1, h2, h3, h4⟩
    · refine Or.inl ⟨h1, h2, r', h3, (h4.kept (ho b hab)).to fun k _ => ?_⟩
      show w.2.1 (64 * c' + k) b = (if 64 * c' + k = 64 * c + k0 then (if b = a then v else w.2.1 (64 * c' + k) b) else w.2.1 (64 * c' + k) b)
      simp [hab]
    · exact Or.inr ⟨t, ty, h1, h2, h3, (ho b hab).trans h4⟩
theorem fxH.ast {G : fxG} {w : fxW} {H H' : Heap} {a t n j : Nat} {v : Value} (h : fxH G w H) (ht : t < 100) (hk : fxk w a = some (100 + t, n)) (hz : H'.size = H.size) (ho : ∀ q : Nat, q ≠ a → H'[q]? = H[q]?)
    (hn : H'[a]? = some (arrV (fxA G t) n (updV (fun j => fxe w t a j) j v))) : fxH G (fx_ast w t a j v) H' := by
  obtain ⟨hba, ty, hty, -⟩ := h.arr ht hk
  refine ⟨hz.trans h.1, fun q hq => (ho q (by omega)).trans (h.2.1 q hq), h.2.2.1, h.2.2.2.1, h.2.2.2.2.1, fun b c' n' hb => ?_⟩
  have hb' : fxk w b = some (c', n') := hb
  by_cases hab : b = a
  · subst hab
    cases hb'.symm.trans hk
    refine Or.inr ⟨t, ty, ht, Or.inl ⟨rfl, hba⟩, hty, hn.trans ?_⟩
    congr 2
    funext i
    show updV _ j v i = (if t = t then (if b = b then (if i = j then v else w.2.2.1 t b i) else w.2.2.1 t b i) else w.2.2.1 t b i)
    by_cases hij : i = j
    · subst hij; simp [updV]
    · simp [updV, hij]; rfl
  · rcases h.2.2.2.2.2 b c' n' hb' with ⟨h1, h2, r', h3, h4⟩ | ⟨t', ty', h1, h2, h3, h4⟩
    · exact Or.inl ⟨h1, h2, r', h3, h4.kept (ho b hab)⟩
    · refine Or.inr ⟨t', ty', h1, h2, h3, ((ho b hab).trans h4).trans ?_⟩
      congr 2
      funext i
      show w.2.2.1 t' b i = (if t' = t then (if b = a then (if i = j then v else w.2.2.1 t' b i) else w.2.2.1 t' b i) else w.2.2.1 t' b i)
      simp [hab]
theorem fxH.new {G : fxG} {w : fxW} {H H' : Heap} {c n : Nat} {z : Nat → Value} (h : fxH G w H) (hc : c < 100) (hz : H'.size = fxt w + 1) (ho : ∀ q : Nat, q < fxt w → H'[q]? = H[q]?) (h1 : fxt w + 1 ≤ fxmt G) (h2 : fxu w + n ≤ fxmu G)
    (hn : ∃ r : vw_C, fxCl[c]? = some r ∧ t_OB (fxt w) ((fxD G).1 c) r.2.2 ((fxD G).2 c) H' z) : fxH G (fx_new w c n z) H' := by
  obtain ⟨r, hr, hob⟩ := hn
  have hbt := h.2.2.1
  refine ⟨hz, fun q hq => (ho q (by omega)).trans (h.2.1 q hq), by show fxb G ≤ fxt w + 1; omega, h1, h2, fun b c' n' hb => ?_⟩
  have hb' : (if b = fxt w then some (c, 0) else fxk w b) = some (c', n') := hb
  by_cases hab : b = fxt w
  · rw [if_pos hab] at hb'
    cases hb'
    subst hab
    refine Or.inl ⟨hc, hbt, r, hr, hob.to fun k _ => ?_⟩
    show z k = (if fxt w = fxt w then (if 64 * c ≤ 64 * c + k then z (64 * c + k - 64 * c) else _) else _)
    simp
  · rw [if_neg hab] at hb'
    have hlt := h.lt hb'
    rcases h.2.2.2.2.2 b c' n' hb' with ⟨h1, h2, r', h3, h4⟩ | ⟨t', ty', h1, h2, h3, h4⟩
    · refine Or.inl ⟨h1, h2, r', h3, (h4.kept (ho b hlt)).to fun k _ => ?_⟩
      show w.2.1 (64 * c' + k) b = (if b = fxt w then _ else w.2.1 (64 * c' + k) b)
      rw [if_neg hab]
    · exact Or.inr ⟨t', ty', h1, h2, h3, (ho b hlt).trans h4⟩
theorem fxH.newa {G : fxG} {w : fxW} {H H' : Heap} {t n : Nat} {z : Value} {ty : FieldType} (h : fxH G w H) (ht : t < 100) (hty : fxAr[t]? = some ty) (hz : H'.size = fxt w + 1) (ho : ∀ q : Nat, q < fxt w → H'[q]? = H[q]?) (h1 : fxt w + 1 ≤ fxmt G) (h2 : fxu w + n ≤ fxmu G)
    (hn : H'[fxt w]? = some (arrV (fxA G t) n (fun _ => z))) : fxH G (fx_newa w t n z) H' := by
  have hbt := h.2.2.1
  refine ⟨hz, fun q hq => (ho q (by omega)).trans (h.2.1 q hq), by show fxb G ≤ fxt w + 1; omega, h1, h2, fun b c' n' hb => ?_⟩
  have hb' : (if b = fxt w then some (100 + t, n) else fxk w b) = some (c', n') := hb
  by_cases hab : b = fxt w
  · rw [if_pos hab] at hb'
    cases hb'
    subst hab
    refine Or.inr ⟨t, ty, ht, Or.inl ⟨rfl, hbt⟩, hty, hn.trans ?_⟩
    congr 2
    funext i
    show z = (if fxt w = fxt w then z else _)
    simp
  · rw [if_neg hab] at hb'
    have hlt := h.lt hb'
    rcases h.2.2.2.2.2 b c' n' hb' with ⟨h1, h2, r', h3, h4⟩ | ⟨t', ty', h1, h2, h3, h4⟩
    · exact Or.inl ⟨h1, h2, r', h3, h4.kept (ho b hlt)⟩
    · refine Or.inr ⟨t', ty', h1, h2, h3, ((ho b hlt).trans h4).trans ?_⟩
      congr 2
      funext i
      show w.2.2.1 t' b i = (if b = fxt w then z else w.2.2.1 t' b i)
      rw [if_neg hab]
section FXH
variable {G : fxG} {d nL : Nat} {cc : ByteArray} {own nm : String} {ret : Option FieldType} {hh : List (Nat × Nat × Nat × Nat)} {x : fxX} {Q : State → Prop} {w : fxW} {pc : Nat} {ls : List (Nat × Value)} {st : List Value}
/-- what the tables say of a field reference: its class is the declarer, or the two names are of one field -/
def fxSame (ref decl name desc : String) : Prop := ref = decl ∨ Cond.sameField ref decl name desc ∈ fxTW
theorem fxSame.use {ref decl name desc : String} (h : fxSame ref decl name desc) {args : Array Value} {s : State} (hts : ∀ w ∈ fxTW, w.before args s = true) : ∀ y, s.fieldFound? decl name desc = some y → s.fieldFound? ref name desc = some y := by
  intro y hy
  rcases h with rfl | h
  · exact hy
  · exact u_same (hts _ h) y hy
theorem r_get (C : fxC G d cc nL own nm ret hh x) {Cn ref : String} {T : u_T} {N ci idx k0 a n : Nat} {v : Value} (hd : decode cc pc = .ok (.getfield idx, 3)) (hc : fxCl[ci]? = some (Cn, T, N)) (hci : ci < 100) (hws : ∀ w ∈ u_ws Cn T N, w ∈ fxTW) (hk : k0 < N) (hl : Cond.fieldLink own idx ref (T k0).2.1 (T k0).2.2.1 ∈ fxTW) (hs : fxSame ref (T k0).1 (T k0).2.1 (T k0).2.2.1)
    (ha : fxk w a = some (ci, n)) (hv : fxf w (64 * ci + k0) a = v) (k : fxR G nL x Q w (pc + 3) ls (v :: st)) : fxR G nL x Q w pc ls (.ref a :: st) := by
  obtain ⟨p, e, R, s, m, args, below, meth, c, t0, u0⟩ := x
  obtain ⟨hx, hb, hml, hown, hts, hV, C2⟩ := C
  intro H locs sl cells slots h1 h2 h3 h4 h5
  obtain ⟨-, r, hr, cell, q1, q2, q3, q4⟩ := h1.obj ha hci
  cases hr.symm.trans hc
  obtain ⟨hS, hfc, kC, hkC, hkind⟩ := hV.1.1 ci _ hc
  obtain ⟨cf, kf, fi, f, hi, hsl⟩ := hS k0 hk
  exact W.getf hx hb hown (hts _ hl) (hs.use hts _ hi) (u_facts hfc hkC (u_lays hts hws hk) hi).1 q1 (by rw [q3]; exact fun h => by cases h) (v := v) (by rw [hsl, q4 k0 hk]; exact congrArg some hv) rfl rfl hd (k H locs sl cells slots h1 h2 h3 h4 h5)
theorem r_getN (C : fxC G d cc nL own nm ret hh x) {Cn ref host : String} {T : u_T} {N ci idx k0 a n : Nat} {v : Value} (hd : decode cc pc = .ok (.getfield idx, 3)) (hc : fxCl[ci]? = some (Cn, T, N)) (hci : ci < 100) (hws : ∀ w ∈ u_ws Cn T N, w ∈ fxTW) (hk : k0 < N) (hl : Cond.fieldLinkNest own idx ref (T k0).2.1 (T k0).2.2.1 host ∈ fxTW) (hs : fxSame ref (T k0).1 (T k0).2.1 (T k0).2.2.1)
    (ha : fxk w a = some (ci, n)) (hv : fxf w (64 * ci + k0) a = v) (k : fxR G nL x Q w (pc + 3) ls (v :: st)) : fxR G nL x Q w pc ls (.ref a :: st) := by
  obtain ⟨p, e, R, s, m, args, below, meth, c, t0, u0⟩ := x
  obtain ⟨hx, hb, hml, hown, hts, hV, C2⟩ := C
  intro H locs sl cells slots h1 h2 h3 h4 h5
  obtain ⟨-, r, hr, cell, q1, q2, q3, q4⟩ := h1.obj ha hci
  cases hr.symm.trans hc
  obtain ⟨hS, hfc, kC, hkC, hkind⟩ := hV.1.1 ci _ hc
  obtain ⟨cf, kf, fi, f, hi, hsl⟩ := hS k0 hk
  exact va_Wgetf hx hb hown (hts _ hl) (hs.use hts _ hi) (u_facts hfc hkC (u_lays hts hws hk) hi).1 q1 (by rw [q3]; exact fun h => by cases h) (v := v) (by rw [hsl, q4 k0 hk]; exact congrArg some hv) rfl rfl hd (k H locs sl cells slots h1 h2 h3 h4 h5)
theorem fx_locs {G : fxG} {locs : List Loc} {a i : Nat} (h : ∀ q ∈ locs, fxb G ≤ q.base) (ha : fxb G ≤ a) : ∀ q ∈ locs ++ [⟨a, i⟩], fxb G ≤ q.base := by
  intro q hq
  rcases List.mem_append.mp hq with h1 | h1
  · exact h q h1
  · rw [List.mem_singleton.mp h1]; exact ha
theorem r_put (C : fxC G d cc nL own nm ret hh x) {Cn ref : String} {T : u_T} {N ci idx k0 a n : Nat} {ty : FieldType} {v : Value} (hd : decode cc pc = .ok (.putfield idx, 3)) (hc : fxCl[ci]? = some (Cn, T, N)) (hci : ci < 100) (hws : ∀ w ∈ u_ws Cn T N, w ∈ fxTW) (tys : Nat → FieldType) (hty : ∀ k, k < N → parseFieldDescriptor (T k).2.2.1 = some (tys k)) (hnm : ∀ a, a < N → ∀ b, b < N → a ≠ b → (T a).2.1 ≠ (T b).2.1) (hk : k0 < N) (hl : Cond.fieldLink own idx ref (T k0).2.1 (T k0).2.2.1 ∈ fxTW) (hs : fxSame ref (T k0).1 (T k0).2.1 (T k0).2.2.1) (hfin : (T k0).2.2.2 = false)
    (hpd : parseFieldDescriptor (T k0).2.2.1 = some ty) (hn : narrow ty v = v) (hfit : fits ty v = true) (ha : fxk w a = some (ci, n)) (k : fxR G nL x Q (fx_put w (64 * ci + k0) a v) (pc + 3) ls st) : fxR G nL x Q w pc ls (v :: .ref a :: st) := by
  obtain ⟨p, e, R, s, m, args, below, meth, c, t0, u0⟩ := x
  obtain ⟨hx, hb, hml, hown, hts, hV, C2⟩ := C
  intro H locs sl cells slots h1 h2 h3 h4 h5
  have hap := va_apart (own := own) hts hws tys hty hnm hV.1 hc
  obtain ⟨hba, r, hr, cell, q1, q2, q3, q4⟩ := h1.obj ha hci
  cases hr.symm.trans hc
  obtain ⟨hS, hfc, kC, hkC, hkind⟩ := hV.1.1 ci _ hc
  obtain ⟨cf, kf, fi, f, hi, hsl⟩ := hS k0 hk
  have hlay := hts _ (hws _ (u_in_lay hk))
  unfold u_lay at hlay
  rw [if_neg (by rw [hfin]; decide)] at hlay
  have hst := (u_facts hfc hkC (u_lays hts hws hk) hi).1
  have h6 := u_store hfc hkC hkind hlay hi hpd hn hfit
  refine W.putK hx hb (f := f) ⟨hown, hts _ hl, ⟨_, _, _, hs.use hts _ hi⟩, hst⟩ (by rw [q2]; exact h6) q1 q3 (by rw [hsl]; exact k2_hasslot (q4 k0 hk)) rfl rfl hd fun H' e1 e2 e3 => ?_
  rw [hsl] at e1 ⊢
  exact k H' _ sl cells slots (h1.put ha hci e2 e3 fun r' hr' => by cases hr'.symm.trans hc; exact ⟨_, e1, q2, q3, t_set q4 hap hk v⟩) (fx_locs h2 hba) h3 h4 h5
theorem r_putN (C : fxC G d cc nL own nm ret hh x) {Cn ref host : String} {T : u_T} {N ci idx k0 a n : Nat} {ty : FieldType} {v : Value} (hd : decode cc pc = .ok (.putfield idx, 3)) (hc : fxCl[ci]? = some (Cn, T, N)) (hci : ci < 100) (hws : ∀ w ∈ u_ws Cn T N, w ∈ fxTW) (tys : Nat → FieldType) (hty : ∀ k, k < N → parseFieldDescriptor (T k).2.2.1 = some (tys k)) (hnm : ∀ a, a < N → ∀ b, b < N → a ≠ b → (T a).2.1 ≠ (T b).2.1) (hk : k0 < N) (hl : Cond.fieldLinkNest own idx ref (T k0).2.1 (T k0).2.2.1 host ∈ fxTW) (hs : fxSame ref (T k0).1 (T k0).2.1 (T k0).2.2.1) (hfin : (T k0).2.2.2 = false)
    (hpd : parseFieldDescriptor (T k0).2.2.1 = some ty) (hn : narrow ty v = v) (hfit : fits ty v = true) (ha : fxk w a = some (ci, n)) (k : fxR G nL x Q (fx_put w (64 * ci + k0) a v) (pc + 3) ls st) : fxR G nL x Q w pc ls (v :: .ref a :: st) := by
  obtain ⟨p, e, R, s, m, args, below, meth, c, t0, u0⟩ := x
  obtain ⟨hx, hb, hml, hown, hts, hV, C2⟩ := C
  intro H locs sl cells slots h1 h2 h3 h4 h5
  have hap := va_apart (own := own) hts hws tys hty hnm hV.1 hc
  obtain ⟨hba, r, hr, cell, q1, q2, q3, q4⟩ := h1.obj ha hci
  cases hr.symm.trans hc
  obtain ⟨hS, hfc, kC, hkC, hkind⟩ := hV.1.1 ci _ hc
  obtain ⟨cf, kf, fi, f, hi, hsl⟩ := hS k0 hk
  have hlay := hts _ (hws _ (u_in_lay hk))
  unfold u_lay at hlay
  rw [if_neg (by rw [hfin]; decide)] at hlay
  have hst := (u_facts hfc hkC (u_lays hts hws hk) hi).1
  have h6 := u_store hfc hkC hkind hlay hi hpd hn hfit
  refine va_WputK hx hb (f := f) hown (hts _ hl) (hs.use hts _ hi) hst (by rw [q2]; exact h6) q1 q3 (by rw [hsl]; exact k2_hasslot (q4 k0 hk)) rfl rfl hd fun H' e1 e2 e3 => ?_
  rw [hsl] at e1 ⊢
  exact k H' _ sl cells slots (h1.put ha hci e2 e3 fun r' hr' => by cases hr'.symm.trans hc; exact ⟨_, e1, q2, q3, t_set q4 hap hk v⟩) (fx_locs h2 hba) h3 h4 h5
theorem r_putF (C : fxC G d cc nL own "<init>" ret hh x) {Cn ref : String} {T : u_T} {N ci idx k0 a n : Nat} {ty : FieldType} {v : Value} (hd : decode cc pc = .ok (.putfield idx, 3)) (hc : fxCl[ci]? = some (Cn, T, N)) (hci : ci < 100) (hws : ∀ w ∈ u_ws Cn T N, w ∈ fxTW) (tys : Nat → FieldType) (hty : ∀ k, k < N → parseFieldDescriptor (T k).2.2.1 = some (tys k)) (hnm : ∀ a, a < N → ∀ b, b < N → a ≠ b → (T a).2.1 ≠ (T b).2.1) (hk : k0 < N) (hl : Cond.fieldLink own idx ref (T k0).2.1 (T k0).2.2.1 ∈ fxTW) (hs : fxSame ref (T k0).1 (T k0).2.1 (T k0).2.2.1) (hfin : (T k0).2.2.2 = true) (hdecl : (T k0).1 = own)
    (hpd : parseFieldDescriptor (T k0).2.2.1 = some ty) (hn : narrow ty v = v) (hfit : fits ty v = true) (ha : fxk w a = some (ci, n)) (k : fxR G nL x Q (fx_put w (64 * ci + k0) a v) (pc + 3) ls st) : fxR G nL x Q w pc ls (v :: .ref a :: st) := by
  obtain ⟨p, e, R, s, m, args, below, meth, c, t0, u0⟩ := x
  obtain ⟨hx, hb, hml, hown, hts, hV, hrt, hlk, hnmn, C2⟩ := C
  intro H locs sl cells slots h1 h2 h3 h4 h5
  have hap := va_apart (own := own) hts hws tys hty hnm hV.1 hc
  obtain ⟨hba, r, hr, cell, q1, q2, q3, q4⟩ := h1.obj ha hci
  cases hr.symm.trans hc
  obtain ⟨hS, hfc, kC, hkC, hkind⟩ := hV.1.1 ci _ hc
  obtain ⟨cf, kf, fi, f, hi, hsl⟩ := hS k0 hk
  have hlay := hts _ (hws _ (u_in_lay hk))
  unfold u_lay at hlay
  rw [if_pos hfin] at hlay
  have hst := (u_facts hfc hkC (u_lays hts hws hk) hi).1
  have hcf : m.cls = cf := by
    obtain ⟨_, _, c', _, _, _, -, -, hf', -, -, -, hown2, -⟩ := Cond.laysFinal_spec hlay
    have e1 : c' = cf := by have := hi.symm.trans hf'; simp at this; exact this.1.symm
    rw [hdecl] at hown2
    rw [← e1]; exact Option.some.inj (hown.symm.trans hown2)
  have h6 := u_fits hfc hkC hkind (Or.inr hlay) hi hpd hn hfit
  refine W.putFinK hx hb hown (hts _ hl) (hs.use hts _ hi) hst hcf hnmn (by rw [q2]; exact h6) q1 q3 (by rw [hsl]; exact k2_hasslot (q4 k0 hk)) rfl rfl hd fun H' e1 e2 e3 => ?_
  rw [hsl] at e1 ⊢
  exact k H' _ sl cells slots (h1.put ha hci e2 e3 fun r' hr' => by cases hr'.symm.trans hc; exact ⟨_, e1, q2, q3, t_set q4 hap hk v⟩) (fx_locs h2 hba) h3 h4 h5
/-- a new object: its address is fxt w -/
theorem r_new (C : fxC G d cc nL own nm ret hh x) {Cn : String} {T : u_T} {N ci idx sz : Nat} {z : Nat → Value} (hd : decode cc pc = .ok (.new idx, 3)) (hc : fxCl[ci]? = some (Cn, T, N)) (hci : ci < 100) (hws : ∀ w ∈ u_ws Cn T N, w ∈ fxTW) (tys : Nat → FieldType) (hty : ∀ k, k < N → parseFieldDescriptor (T k).2.2.1 = some (tys k)) (hl : Cond.classLink own idx Cn ∈ fxTW) (hi : Cond.instantiable Cn sz ∈ fxTW) (hini : Cond.initialized Cn ∈ fxTW) (hz : ∀ j, j < N → defaultValue (tys j) = z j)
    (h9 : fxt w + 1 ≤ fxmt G) (h8 : fxu w + sz ≤ fxmu G) (k : fxR G nL x Q (fx_new w ci sz z) (pc + 3) ls (.ref (fxt w) :: st)) : fxR G nL x Q w pc ls st := by
  obtain ⟨p, e, R, s, m, args, below, meth, c, t0, u0⟩ := x
  obtain ⟨hx, hb, hml, hown, hts, hV, hrt, hlk, hnmn, hsz, hRc, hRs, C2⟩ := C
  intro H locs sl cells slots h1 h2 h3 h4 h5
  have h4' : t0 + cells = fxt w := h4
  have h5' : u0 + slots = fxu w := h5
  have hKn := hV.1.1 ci _ hc
  refine W.newcK hx hb hown (hts _ hl) (hts _ hi) (hts _ hini) rfl hd (by omega) (by omega) hKn.2.1 h1.1 fun H1 kC hkC e1 z1 o1 => ?_
  exact k H1 locs sl (cells + 1) (slots + sz) (h1.new hci z1 (fun q hq => o1 q hq) h9 h8 ⟨_, hc, (u_born tys hts hws hKn hkC e1 hty).to hz⟩) h2 h3 (by show t0 + (cells + 1) = fxt w + 1; omega) (by show u0 + (slots + sz) = fxu w + sz; omega)
/-- arrays: a place, the length -/
theorem r_alen (C : fxC G d cc nL own nm ret hh x) {a t n : Nat} {v : Int32} (hd : decode cc pc = .ok (.arraylength, 1)) (ht : t < 100) (ha : fxk w a = some (100 + t, n) ∨ fxk w a = some (200 + t, n)) (hv : Int32.ofNat n = v) (k : fxR G nL x Q w (pc + 1) ls (.int v :: st)) : fxR G nL x Q w pc ls (.ref a :: st) := by
  obtain ⟨p, e, R, s, m, args, below, meth, c, t0, u0⟩ := x
  obtain ⟨hx, hb, hml, hown, hts, hV, C2⟩ := C
  intro H locs sl cells slots h1 h2 h3 h4 h5
  obtain ⟨ty, hty, q1⟩ := h1.rarr ht ha
  exact W.alen (n := v) hx hb q1 ((hV.1.2 t _ (fxT_at hty)).1 n _) (by rw [arrV_size]; exact hv) rfl rfl hd (k H locs sl cells slots h1 h2 h3 h4 h5)

theorem r_iaload (C : fxC G d cc nL own nm ret hh x) {a t n : Nat} {i : Int32} {v : Value} (hd : decode cc pc = .ok (.iaload, 1)) (ht : t < 100) (hty : fxAr[t]? = some .int) (ha : fxk w a = some (100 + t, n) ∨ fxk w a = some (200 + t, n)) (hi : vp_in i n) (hv : fxe w t a i.toNatClampNeg = v) (k : fxR G nL x Q w (pc + 1) ls (v :: st)) : fxR G nL x Q w pc ls (.int i :: .ref a :: st) := by
  obtain ⟨p, e, R, s, m, args, below, meth, c, t0, u0⟩ := x
  obtain ⟨hx, hb, hml, hown, hts, hV, C2⟩ := C
  intro H locs sl cells slots h1 h2 h3 h4 h5
  obtain ⟨ty, hty', q1⟩ := h1.rarr ht ha
  cases hty'.symm.trans hty
  have hlt : i.toNatClampNeg < n := Nat.not_le.mp fun q => hi (Or.inr q)
  exact W.iald (v := v) hx hb q1 ((hV.1.2 t _ (fxT_at hty)).1 n _) (fun q => by cases q) (by rw [arrV_size]; exact hi) (by rw [arrV_read _ _ hlt]; exact congrArg some hv) rfl rfl hd (k H locs sl cells slots h1 h2 h3 h4 h5)
theorem r_laload (C : fxC G d cc nL own nm ret hh x) {a t n : Nat} {i : Int32} {v : Value} (hd : decode cc pc = .ok (.laload, 1)) (ht : t < 100) (hty : fxAr[t]? = some .long) (ha : fxk w a = some (100 + t, n) ∨ fxk w a = some (200 + t, n)) (hi : vp_in i n) (hv : fxe w t a i.toNatClampNeg = v) (k : fxR G nL x Q w (pc + 1) ls (v :: st)) : fxR G nL x Q w pc ls (.int i :: .ref a :: st) := by
  obtain ⟨p, e, R, s, m, args, below, meth, c, t0, u0⟩ := x
  obtain ⟨hx, hb, hml, hown, hts, hV, C2⟩ := C
  intro H locs sl cells slots h1 h2 h3 h4 h5
  obtain ⟨ty, hty', q1⟩ := h1.rarr ht ha
  cases hty'.symm.trans hty
  have hlt : i.toNatClampNeg < n := Nat.not_le.mp fun q => hi (Or.inr q)
  exact W.lald (v := v) hx hb q1 ((hV.1.2 t _ (fxT_at hty)).1 n _) (fun q => by cases q) (by rw [arrV_size]; exact hi) (by rw [arrV_read _ _ hlt]; exact congrArg some hv) rfl rfl hd (k H locs sl cells slots h1 h2 h3 h4 h5)
theorem r_baload (C : fxC G d cc nL own nm ret hh x) {a t n : Nat} {i : Int32} {v : Value} (hd : decode cc pc = .ok (.baload, 1)) (ht : t < 100) (hty : fxAr[t]? = some .byte) (ha : fxk w a = some (100 + t, n) ∨ fxk w a = some (200 + t, n)) (hi : vp_in i n) (hv : fxe w t a i.toNatClampNeg = v) (k : fxR G nL x Q w (pc + 1) ls (v :: st)) : fxR G nL x Q w pc ls (.int i :: .ref a :: st) := by
  obtain ⟨p, e, R, s, m, args, below, meth, c, t0, u0⟩ := x
  obtain ⟨hx, hb, hml, hown, hts, hV, C2⟩ := C
  intro H locs sl cells slots h1 h2 h3 h4 h5
  obtain ⟨ty, hty', q1⟩ := h1.rarr ht ha
  cases hty'.symm.trans hty
  have hlt : i.toNatClampNeg < n := Nat.not_le.mp fun q => hi (Or.inr q)
  exact W.bald (v := v) hx hb q1 ((hV.1.2 t _ (fxT_at hty)).1 n _) (fun q => by cases q) (by rw [arrV_size]; exact hi) (by rw [arrV_read _ _ hlt]; exact congrArg some hv) rfl rfl hd (k H locs sl cells slots h1 h2 h3 h4 h5)
theorem r_saload (C : fxC G d cc nL own nm ret hh x) {a t n : Nat} {i : Int32} {v : Value} (hd : decode cc pc = .ok (.saload, 1)) (ht : t < 100) (hty : fxAr[t]? = some .short) (ha : fxk w a = some (100 + t, n) ∨ fxk w a = some (200 + t, n)) (hi : vp_in i n) (hv : fxe w t a i.toNatClampNeg = v) (k : fxR G nL x Q w (pc + 1) ls (v :: st)) : fxR G nL x Q w pc ls (.int i :: .ref a :: st) := by
  obtain ⟨p, e, R, s, m, args, below, meth, c, t0, u0⟩ := x
  obtain ⟨hx, hb, hml, hown, hts, hV, C2⟩ := C
  intro H locs sl cells slots h1 h2 h3 h4 h5
  obtain ⟨ty, hty', q1⟩ := h1.rarr ht ha
  cases hty'.symm.trans hty
  have hlt : i.toNatClampNeg < n := Nat.not_le.mp fun q => hi (Or.inr q)
  exact W.sald (v := v) hx hb q1 ((hV.1.2 t _ (fxT_at hty)).1 n _) (fun q => by cases q) (by rw [arrV_size]; exact hi) (by rw [arrV_read _ _ hlt]; exact congrArg some hv) rfl rfl hd (k H locs sl cells slots h1 h2 h3 h4 h5)
theorem r_aaload (C : fxC G d cc nL own nm ret hh x) {a t n : Nat} {i : Int32} {v : Value} {ty : FieldType} (hd : decode cc pc = .ok (.aaload, 1)) (ht : t < 100) (hty : fxAr[t]? = some ty) (href : ty.isReference = true) (ha : fxk w a = some (100 + t, n) ∨ fxk w a = some (200 + t, n)) (hi : vp_in i n) (hv : fxe w t a i.toNatClampNeg = v) (k : fxR G nL x Q w (pc + 1) ls (v :: st)) : fxR G nL x Q w pc ls (.int i :: .ref a :: st) := by
  obtain ⟨p, e, R, s, m, args, below, meth, c, t0, u0⟩ := x
  obtain ⟨hx, hb, hml, hown, hts, hV, C2⟩ := C
  intro H locs sl cells slots h1 h2 h3 h4 h5
  obtain ⟨ty', hty', q1⟩ := h1.rarr ht ha
  cases hty'.symm.trans hty
  have hlt : i.toNatClampNeg < n := Nat.not_le.mp fun q => hi (Or.inr q)
  exact W.aald (v := v) (ty := ty) hx hb q1 ((hV.1.2 t _ (fxT_at hty)).1 n _) href (fun q => by cases q) (by rw [arrV_size]; exact hi) (by rw [arrV_read _ _ hlt]; exact congrArg some hv) rfl rfl hd (k H locs sl cells slots h1 h2 h3 h4 h5)
theorem r_iastore (C : fxC G d cc nL own nm ret hh x) {a t n : Nat} {i : Int32} {v : Int32} (hd : decode cc pc = .ok (.iastore, 1)) (ht : t < 100) (hty : fxAr[t]? = some .int) (ha : fxk w a = some (100 + t, n)) (hi : vp_in i n) (k : fxR G nL x Q (fx_ast w t a i.toNatClampNeg (.int v)) (pc + 1) ls st) : fxR G nL x Q w pc ls (.int v :: .int i :: .ref a :: st) := by
  obtain ⟨p, e, R, s, m, args, below, meth, c, t0, u0⟩ := x
  obtain ⟨hx, hb, hml, hown, hts, hV, C2⟩ := C
  intro H locs sl cells slots h1 h2 h3 h4 h5
  obtain ⟨hba, ty', hty', q1⟩ := h1.arr ht ha
  cases hty'.symm.trans hty
  refine W.iast hx hb q1 ((hV.1.2 t _ (fxT_at hty)).1 n _) (fun q => by cases q) (by rw [arrV_size]; exact hi) rfl rfl hd fun H1 e1 z oq => ?_
  exact k H1 _ sl cells slots (h1.ast ht ha z oq (by rw [e1, arrV_store])) (fx_locs h2 hba) h3 h4 h5
theorem r_lastore (C : fxC G d cc nL own nm ret hh x) {a t n : Nat} {i : Int32} {v : Int64} (hd : decode cc pc = .ok (.lastore, 1)) (ht : t < 100) (hty : fxAr[t]? = some .long) (ha : fxk w a = some (100 + t, n)) (hi : vp_in i n) (k : fxR G nL x Q (fx_ast w t a i.toNatClampNeg (.long v)) (pc + 1) ls st) : fxR G nL x Q w pc ls (.long v :: .int i :: .ref a :: st) := by
  obtain ⟨p, e, R, s, m, args, below, meth, c, t0, u0⟩ := x
  obtain ⟨hx, hb, hml, hown, hts, hV, C2⟩ := C
  intro H locs sl cells slots h1 h2 h3 h4 h5
  obtain ⟨hba, ty', hty', q1⟩ := h1.arr ht ha
  cases hty'.symm.trans hty
  refine W.last hx hb q1 ((hV.1.2 t _ (fxT_at hty)).1 n _) (fun q => by cases q) (by rw [arrV_size]; exact hi) rfl rfl hd fun H1 e1 z oq => ?_
  exact k H1 _ sl cells slots (h1.ast ht ha z oq (by rw [e1, arrV_store])) (fx_locs h2 hba) h3 h4 h5
/-- a reference into an array: an object of the class ci, castable to the component -/
theorem r_aastore (C : fxC G d cc nL own nm ret hh x) {a b t n n' ci : Nat} {i : Int32} {r : vw_C} {E : String} (hd : decode cc pc = .ok (.aastore, 1)) (ht : t < 100) (hty : fxAr[t]? = some (.object E)) (ha : fxk w a = some (100 + t, n)) (hb9 : fxk w b = some (ci, n')) (hci : ci < 100) (hc : fxCl[ci]? = some r) (hca : r.1 = E ∨ Cond.castable r.1 E ∈ fxTW) (hi : vp_in i n) (k : fxR G nL x Q (fx_ast w t a i.toNatClampNeg (.ref b)) (pc + 1) ls st) : fxR G nL x Q w pc ls (.ref b :: .int i :: .ref a :: st) := by
  obtain ⟨p, e, R, s, m, args, below, meth, c, t0, u0⟩ := x
  obtain ⟨hx, hb, hml, hown, hts, hV, C2⟩ := C
  intro H locs sl cells slots h1 h2 h3 h4 h5
  obtain ⟨hba, ty', hty', q1⟩ := h1.arr ht ha
  cases hty'.symm.trans hty
  have hlt : i.toNatClampNeg < n := Nat.not_le.mp fun q => hi (Or.inr q)
  have h0 : ¬ i < 0 := fun q => hi (Or.inl q)
  obtain ⟨-, r', hr', cellV, g1, g2, g3, -⟩ := h1.obj hb9 hci
  have hcls := (hV.1.1 ci r hc).2
  obtain ⟨kA, comp, k1, k2, k3, -⟩ := (hV.1.2 t _ (fxT_at hty)).2
  obtain ⟨kE, hkE, -⟩ := Vm.findClass_spec k3
  obtain ⟨kC, hkC, -⟩ := hcls.2
  have hasg : s.vm.assignable ((fxD G).1 ci) comp = true := by
    rcases hca with h | h
    · subst h
      cases hcls.1.symm.trans k3
      exact va_assign hcls
    · obtain ⟨c0, t1, f1, f2, f3⟩ := Cond.castable_spec (hts _ h)
      cases hcls.1.symm.trans f1
      cases k3.symm.trans f2
      exact f3
  refine W.aast hx hb q1 (fun q h => by cases h) (fun h => by cases h) k1 k2 rfl hkE ⟨h0, by rw [arrV_size]; exact hlt⟩ g1 (fun q h => by rw [g3] at h; cases h) (by rw [g2]; exact hkC) (by rw [g2]; exact hasg) rfl rfl hd fun H1 e1 z oq => ?_
  exact k H1 _ sl cells slots (h1.ast ht ha z oq (by rw [e1, arrV_store])) (fx_locs h2 hba) h3 h4 h5
theorem r_aastoreN (C : fxC G d cc nL own nm ret hh x) {a t n : Nat} {i : Int32} {E : String} (hd : decode cc pc = .ok (.aastore, 1)) (ht : t < 100) (hty : fxAr[t]? = some (.object E)) (ha : fxk w a = some (100 + t, n)) (hi : vp_in i n) (k : fxR G nL x Q (fx_ast w t a i.toNatClampNeg .null) (pc + 1) ls st) : fxR G nL x Q w pc ls (.null :: .int i :: .ref a :: st) := by
  obtain ⟨p, e, R, s, m, args, below, meth, c, t0, u0⟩ := x
  obtain ⟨hx, hb, hml, hown, hts, hV, C2⟩ := C
  intro H locs sl cells slots h1 h2 h3 h4 h5
  obtain ⟨hba, ty', hty', q1⟩ := h1.arr ht ha
  cases hty'.symm.trans hty
  refine va_WaastN (C := E) hx hb q1 ((hV.1.2 t _ (fxT_at hty)).1 n _) (fun q => by cases q) (by rw [arrV_size]; exact hi) rfl rfl hd fun H1 e1 z oq => ?_
  exact k H1 _ sl cells slots (h1.ast ht ha z oq (by rw [e1, arrV_store])) (fx_locs h2 hba) h3 h4 h5
theorem r_newarr (C : fxC G d cc nL own nm ret hh x) {t N : Nat} {atype : ArrayType} {i : Int32} {z : Value} (hd : decode cc pc = .ok (.newarray atype, 2)) (ht : t < 100) (hty : fxAr[t]? = some (newarray.typeOf atype)) (hw : Cond.arrayClass (newarray.typeOf atype) ∈ fxTW) (hn : ¬ i < 0) (hN : i.toNatClampNeg = N) (hby : N * componentBytes (newarray.typeOf atype) ≤ 536870912) (hz : defaultValue (newarray.typeOf atype) = z) (h9 : fxt w + 1 ≤ fxmt G) (h8 : fxu w + N ≤ fxmu G) (k : fxR G nL x Q (fx_newa w t N z) (pc + 2) ls (.ref (fxt w) :: st)) : fxR G nL x Q w pc ls (.int i :: st) := by
  obtain ⟨p, e, R, s, m, args, below, meth, c, t0, u0⟩ := x
  obtain ⟨hx, hb, hml, hown, hts, hV, hrt, hlk, hnmn, hsz, hRc, hRs, C2⟩ := C
  intro H locs sl cells slots h1 h2 h3 h4 h5
  have h4' : t0 + cells = fxt w := h4
  have h5' : u0 + slots = fxu w := h5
  subst hz
  refine va_newaK hx hb (hts _ hw) rfl hd rfl hn hN hby (by omega) (by omega) h1.1 fun H1 cA e1 z1 o1 hAr hNm => ?_
  have hcA : cA = fxA G t := by
    have h7 := (hV.1.2 t _ (fxT_at hty)).2
    cases atype <;> exact Option.some.inj (hNm.symm.trans h7)
  subst hcA
  exact k H1 locs sl (cells + 1) (slots + N) (h1.newa ht hty z1 (fun q hq => o1 q hq) h9 h8 e1) h2 h3 (by show t0 + (cells + 1) = fxt w + 1; omega) (by show u0 + (slots + N) = fxu w + N; omega)
theorem r_anew (C : fxC G d cc nL own nm ret hh x) {t N idx : Nat} {i : Int32} {E : String} (hd : decode cc pc = .ok (.anewarray idx, 3)) (ht : t < 100) (hty : fxAr[t]? = some (.object E)) (hcl : Cond.classLink own idx E ∈ fxTW) (hov : Cond.arrayOver (.object E) ∈ fxTW) (hn : ¬ i < 0) (hN : i.toNatClampNeg = N) (hby : N * 4 ≤ 536870912) (h9 : fxt w + 1 ≤ fxmt G) (h8 : fxu w + N ≤ fxmu G) (k : fxR G nL x Q (fx_newa w t N .null) (pc + 3) ls (.ref (fxt w) :: st)) : fxR G nL x Q w pc ls (.int i :: st) := by
  obtain ⟨p, e, R, s, m, args, below, meth, c, t0, u0⟩ := x
  obtain ⟨hx, hb, hml, hown, hts, hV, hrt, hlk, hnmn, hsz, hRc, hRs, C2⟩ := C
  intro H locs sl cells slots h1 h2 h3 h4 h5
  have h4' : t0 + cells = fxt w := h4
  have h5' : u0 + slots = fxu w := h5
  subst hN
  refine W.anew hx hb hown (hts _ hcl) (hts _ hov) rfl hd rfl hn hby (by omega) (by omega) fun cA kA comp f1 f2 f3 f4 => ?_
  have hcA : cA = fxA G t := by
    obtain ⟨_, _, _, _, _, h7⟩ := (hV.1.2 t _ (fxT_at hty)).2
    exact Option.some.inj (f1.symm.trans h7)
  subst hcA
  have hHs : H.size = fxt w := h1.1
  refine cast ?_ (k (H.push ({ cls := fxA G t, slots := Array.replicate i.toNatClampNeg .null, vm := .none } : Cell)) locs sl (cells + 1) (slots + i.toNatClampNeg) (h1.newa ht hty (by rw [Array.size_push, hHs]) (fun q hq => by rw [Array.getElem?_push, if_neg (by omega)]) h9 h8 (by rw [← hHs, Array.getElem?_push_size, ← arrV_new])) h2 h3 (by show t0 + (cells + 1) = fxt w + 1; omega) (by show u0 + (slots + i.toNatClampNeg) = fxu w + i.toNatClampNeg; omega))
  rw [← hHs]
  rfl
theorem fx_mono {p : Program} {l : Launch} {e : Env} {R : Room} {s : State} {m : MethodId} {args : Array Value} {below : List Frame} {meth : Method} {c : Code} {H : Heap} {locs : List Loc} {cells slots : Nat} {Q Q' : State → Prop} {g : JFrame} (h : W p l e R s m args below meth c H locs cells slots Q g) (hq : ∀ t, Q t → Q' t) : W p l e R s m args below meth c H locs cells slots Q' g := fun T hT X => by
  obtain ⟨t, a, b⟩ := h T hT X
  exact ⟨t, a, hq t b⟩
theorem r_ireturn (C : fxC G d cc nL own nm ret hh x) {P : Outcome → fxW → Prop} {v : Int32} (hd : decode cc pc = .ok (.ireturn, 1)) (hr : ret = some .int) (k : P (.returned (some (.int v))) w) : fxR G nL x (fxQ G x P) w pc ls [.int v] := by
  obtain ⟨p, e, R, s, m, args, below, meth, c, t0, u0⟩ := x
  obtain ⟨hx, hb, hml, hown, hts, hV, hrt, hlk, C2⟩ := C
  intro H locs sl cells slots h1 h2 h3 h4 h5
  refine fx_mono (W.iret (v := v) hx hb (hrt.trans hr) (Qc := fun _ s' o t => o = .returned (some (.int v)) ∧ fxI G w t) (free := fun a => fxb G ≤ a) (fun t ht hW => ⟨rfl, by rw [fxI, ht]; exact ⟨h1, hV.moved hW⟩⟩) h2 hd hlk) ?_
  rintro t ⟨o, b1, b2, ⟨rfl, b3⟩, L, b4, b5⟩
  exact ⟨_, b1, b2, w, k, b3, L, cells, slots, b4.2.1, b4.2.2, b5, h4, h5⟩
theorem r_zreturn (C : fxC G d cc nL own nm ret hh x) {P : Outcome → fxW → Prop} {v : Int32} (hd : decode cc pc = .ok (.ireturn, 1)) {ty : FieldType} (hr : ret = some ty) (hn : narrow ty (.int v) = .int v) (k : P (.returned (some (.int v))) w) : fxR G nL x (fxQ G x P) w pc ls [.int v] := by
  obtain ⟨p, e, R, s, m, args, below, meth, c, t0, u0⟩ := x
  obtain ⟨hx, hb, hml, hown, hts, hV, hrt, hlk, C2⟩ := C
  intro H locs sl cells slots h1 h2 h3 h4 h5
  refine fx_mono (W.zret (v := v) hx hb (hrt.trans hr) hn (Qc := fun _ s' o t => o = .returned (some (.int v)) ∧ fxI G w t) (free := fun a => fxb G ≤ a) (fun t ht hW => ⟨rfl, by rw [fxI, ht]; exact ⟨h1, hV.moved hW⟩⟩) h2 hd hlk) ?_
  rintro t ⟨o, b1, b2, ⟨rfl, b3⟩, L, b4, b5⟩
  exact ⟨_, b1, b2, w, k, b3, L, cells, slots, b4.2.1, b4.2.2, b5, h4, h5⟩
theorem r_lreturn (C : fxC G d cc nL own nm ret hh x) {P : Outcome → fxW → Prop} {v : Int64} (hd : decode cc pc = .ok (.lreturn, 1)) (hr : ret = some .long) (k : P (.returned (some (.long v))) w) : fxR G nL x (fxQ G x P) w pc ls [.long v] := by
  obtain ⟨p, e, R, s, m, args, below, meth, c, t0, u0⟩ := x
  obtain ⟨hx, hb, hml, hown, hts, hV, hrt, hlk, C2⟩ := C
  intro H locs sl cells slots h1 h2 h3 h4 h5
  refine fx_mono (W.lret (v := v) hx hb (hrt.trans hr) (Qc := fun _ s' o t => o = .returned (some (.long v)) ∧ fxI G w t) (free := fun a => fxb G ≤ a) (fun t ht hW => ⟨rfl, by rw [fxI, ht]; exact ⟨h1, hV.moved hW⟩⟩) h2 hd hlk) ?_
  rintro t ⟨o, b1, b2, ⟨rfl, b3⟩, L, b4, b5⟩
  exact ⟨_, b1, b2, w, k, b3, L, cells, slots, b4.2.1, b4.2.2, b5, h4, h5⟩
theorem r_areturn (C : fxC G d cc nL own nm ret hh x) {P : Outcome → fxW → Prop} {v : Value} (hd : decode cc pc = .ok (.areturn, 1)) {ty : FieldType} (hr : ret = some ty) (hn : (∃ n, ty = .object n) ∨ ∃ t, ty = .array t) (hv : v = .null ∨ ∃ a, v = .ref a) (k : P (.returned (some v)) w) : fxR G nL x (fxQ G x P) w pc ls [v] := by
  obtain ⟨p, e, R, s, m, args, below, meth, c, t0, u0⟩ := x
  obtain ⟨hx, hb, hml, hown, hts, hV, hrt, hlk, C2⟩ := C
  intro H locs sl cells slots h1 h2 h3 h4 h5
  refine fx_mono (W.aret (v := v) hx hb (hrt.trans hr) hn hv (Qc := fun _ s' o t => o = .returned (some v) ∧ fxI G w t) (free := fun a => fxb G ≤ a) (fun t ht hW => ⟨rfl, by rw [fxI, ht]; exact ⟨h1, hV.moved hW⟩⟩) h2 hd hlk) ?_
  rintro t ⟨o, b1, b2, ⟨rfl, b3⟩, L, b4, b5⟩
  exact ⟨_, b1, b2, w, k, b3, L, cells, slots, b4.2.1, b4.2.2, b5, h4, h5⟩
theorem r_return (C : fxC G d cc nL own nm ret hh x) {P : Outcome → fxW → Prop} (hd : decode cc pc = .ok (.return_, 1)) (hr : ret = none) (k : P (.returned (none)) w) : fxR G nL x (fxQ G x P) w pc ls [] := by
  obtain ⟨p, e, R, s, m, args, below, meth, c, t0, u0⟩ := x
  obtain ⟨hx, hb, hml, hown, hts, hV, hrt, hlk, C2⟩ := C
  intro H locs sl cells slots h1 h2 h3 h4 h5
  refine fx_mono (W.vret hx hb (hrt.trans hr) (Qc := fun _ s' o t => o = .returned (none) ∧ fxI G w t) (free := fun a => fxb G ≤ a) (fun t ht hW => ⟨rfl, by rw [fxI, ht]; exact ⟨h1, hV.moved hW⟩⟩) h2 hd hlk) ?_
  rintro t ⟨o, b1, b2, ⟨rfl, b3⟩, L, b4, b5⟩
  exact ⟨_, b1, b2, w, k, b3, L, cells, slots, b4.2.1, b4.2.2, b5, h4, h5⟩
end FXH
end
section
/-! CONTRACTS: entry, calls, throws -/
/-- the code word of a method: with no handlers, or with them -/
def fxcode (y : MethodName) (cc : ByteArray) (nL : Nat) (ret : Option FieldType) (hh : List (Nat × Nat × Nat × Nat)) : Cond := match hh with
  | [] => .code y cc nL ret
  | q :: r => .codeWith y cc nL ret (q :: r)
theorem fxcode_spec {y : MethodName} {cc : ByteArray} {nL : Nat} {ret : Option FieldType} {hh : List (Nat × Nat × Nat × Nat)} {args : Array Value} {s : State} {m : MethodId} (hn : s.methodNamed? y = some m) (h : (fxcode y cc nL ret hh).before args s = true) :
    ∃ meth c, s.vm.method? m = some meth ∧ meth.code = some c ∧ c.code = cc ∧ c.maxLocals = nL ∧ meth.sig.returnType = ret ∧ meth.locks = false ∧ c.exceptionTable.toList.map (fun x => (x.startPc, x.endPc, x.handlerPc, x.catchType)) = hh ∧ parseMethodDescriptor y.desc = some meth.sig := by
  cases hh with
  | nil =>
    obtain ⟨meth, c, h1, h2, h3, h4, h5, h6, h7, h8⟩ := Cond.code_spec hn h
    refine ⟨meth, c, h1, h2, h3, h4, h5, h6, ?_, h8⟩
    have h0 : c.exceptionTable.size = 0 := by simpa [Array.isEmpty] using h7
    have h1 : c.exceptionTable.toList = [] := List.eq_nil_of_length_eq_zero (by simpa using h0)
    rw [h1]; rfl
  | cons q r =>
    obtain ⟨m', meth, c, h0, h1, h2, h3, h4, h5, h6, h7, h8⟩ := Cond.codeWith_spec h
    cases hn.symm.trans h0
    exact ⟨meth, c, h1, h2, h3, h4, h6, h7, h5, h8⟩
theorem fxV.calling {G : fxG} {T : State} (h : fxV G T) (g : JFrame) (mk : MethodId) (a : Array Value) : fxV G (T.calling g mk a) := h.moved (u := T) (U := T.calling g mk a) (State.WarmedH.refl T)
theorem fxcode_named {y : MethodName} {cc : ByteArray} {nL : Nat} {ret : Option FieldType} {hh : List (Nat × Nat × Nat × Nat)} {args : Array Value} {s : State} (h : (fxcode y cc nL ret hh).before args s = true) : ∃ m, s.methodNamed? y = some m := by
  cases hh with
  | nil => exact Cond.code_named h
  | cons q r =>
    obtain ⟨m', meth, c, h0, -⟩ := Cond.codeWith_spec h
    exact ⟨m', h0⟩
/-- ENTRY: a contract out of the walk of the body -/
theorem fxM.of {G : fxG} {d : Nat} {y : MethodName} {as : List Value} {w : fxW} {P : Outcome → fxW → Prop} (cc : ByteArray) (nL : Nat) (ret : Option FieldType) (hh : List (Nat × Nat × Nat × Nat)) (hy : plainFor y = true) (hcw : fxcode y cc nL ret hh ∈ fxTW) (hnl : (lg_sl as).length ≤ nL)
    (body : ∀ x : fxX, fxC G d cc nL y.cls y.name ret hh x → fxt0 x = fxt w → fxu0 x = fxu w → fxR G nL x (fxQ G x P) w 0 (lv_args 0 as) []) : fxM G d y as w P := by
  refine MetFree.of_bodySF (code := cc) (maxLocals := nL) (ret := ret) hy ?_ ?_
  · intro args s m h hn
    obtain ⟨meth, c, h1, h2, h3, h4, h5, h6, -, -⟩ := fxcode_spec hn (atoms_spec (ws := fxTW) h _ hcw)
    exact ⟨meth, c, h1, h2, h3, h4, h5, h6⟩
  · intro p e s m args below meth c s₁ B hml hP _
    obtain ⟨rfl, hH, hV⟩ := hP
    have hts := atoms_spec (ws := fxTW) B.pre
    have hown : s.vm.findClass y.cls = some m.cls := findClass_of_methodNamed B.named
    have X := Stand.of_body B
    obtain ⟨meth', c', h1, h2, h3, h4, h5, h6, h7, h8⟩ := fxcode_spec B.named (hts _ hcw)
    cases B.method.symm.trans h1
    cases X.code.symm.trans h2
    have hh0 : s₁.heap = s.heap := by rw [B.state]; rfl
    have hl := lv_entry as (n := nL) hnl
    have k := body (p, e, fxRm G d w, s, m, as.toArray, below, meth, c, fxt w, fxu w) ⟨B.exec, B.bytes, hml, hown, hts, hV, B.returns, B.notSynchronized, (name_of_methodNamed B.named B.method).1, hH.1, by show fxt w + (fxmt G - fxt w) = fxmt G; have := hH.2.2.2.1; omega, by show fxu w + (fxmu G - fxu w) = fxmu G; have := hH.2.2.2.2.1; omega, Nat.le_refl _, Nat.le_refl _, hH.2.2.1, h7, B.admits⟩ rfl rfl
    obtain ⟨t, a1, o, b1, b2, b3⟩ := k s.heap [] _ 0 0 hH (fun _ h => by cases h) hl rfl rfl s₁ hh0 X
    rw [← lg_entry_eq] at a1
    exact ⟨t, o, a1, b1, b2, b3⟩
/-- A CALL COMES BACK, by the callee's contract: it has returned, or thrown -/
theorem fx_back {G : fxG} {p : Program} {e : Env} {R : Room} {s : State} {m : MethodId} {args : Array Value} {below : List Frame} {meth : Method} {c : Code} {T : State} {locs : List Loc} {cells slots : Nat} (X : Stand p (fxl G) e R s m args below meth c T locs cells slots)
    {d maxL : Nat} {y : MethodName} {as : List Value} {w : fxW} {P : Outcome → fxW → Prop} (hM : fxM G d y as w P) (hH : fxH G w T.heap) (hV : fxV G T) (hts : ∀ q ∈ fxTW, q.before args s = true) {mk : MethodId} (hn : T.methodNamed? y = some mk)
    (hcode : ∃ (methY : Method) (cY : Code), T.vm.method? mk = some methY ∧ methY.code = some cY ∧ cY.maxLocals = maxL) (hini : Cond.initialized y.cls ∈ fxTW) (hfr : d + 1 ≤ R.frames) (hlo : 8 + (maxL + 11) + (38 * d + 20) ≤ R.locals) (hc : cells + (fxmt G - fxt w) ≤ R.cells) (hs : slots + (fxmu G - fxu w) ≤ R.slots)
    {g : JFrame} (hg : g.method = m) (hsize : g.locals.size = c.maxLocals) (hW : 2 * g.monitorRoom + (g.stack.map fun v => v.category).sum ≤ 8) {ig : Instr} {len : Nat} (hdg : decode c.code g.pc = .ok (ig, len)) :
    ∃ (o : Outcome) (w' : fxW) (T' : State) (L : List Loc) (k n : Nat), P o w' ∧ fxH G w' T'.heap ∧ Stand p (fxl G) e R s m args below meth c T' (locs ++ L) (cells + k) (slots + n) ∧ (∀ q ∈ L, fxb G ≤ q.base) ∧ fxt w + k = fxt w' ∧ fxu w + n = fxu w' ∧
      (∀ v, o = .returned v → Steps p.tables e below (doInvoke e (T.setTop g) [] mk as.toArray).1 (T'.setTop { g with pc := g.pc + len, stack := v.toList ++ g.stack })) ∧
      (∀ a, o = .threw a → Steps p.tables e below (doInvoke e (T.setTop g) [] mk as.toArray).1 ((T'.setTop g).pushFrame (.throwing a))) := by
  obtain ⟨methY, cY, hmY, hcY, hlY⟩ := hcode
  obtain ⟨kY, hkY, -⟩ := className_of_methodNamed hn
  have hwords : ∀ q ∈ fxTW, q.before as.toArray T = true := fun q hq => fxTW_at hq X.warmed (hts q hq)
  have hinitY : kY.init = .initialized := Cond.initialized_spec (findClass_of_methodNamed hn) hkY (hwords _ hini)
  have h : At T g.method c below := by rw [hg]; exact X.here
  have happ : (headSpec fxTW (fxRm G d w)).appliesLoose y e.platform (T.calling g mk as.toArray) = true :=
    Spec.appliesLoose_calling (g := g) h hdg hn hkY hinitY (X.room_calling (g := g) (R' := fxRm G d w) hsize hmY hcY hfr (by rw [hlY]; show _ + _ + (maxL + 11) + (38 * d + 20) ≤ R.locals; omega) hc hs) (atoms_intro hwords)
  obtain ⟨mid, hmid⟩ := h.above
  have hfr' : (T.setTop g).frames = (.java g :: mid) ++ below := by rw [State.frames_setTop' g h.top, hmid]; rfl
  obtain ⟨o, s₂, hsteps, -, hend, hq⟩ := Steps.callFree hM p X.admits X.cas X.clock (acts := []) hfr' happ ⟨rfl, hH, hV.calling g mk as.toArray⟩ trivial
  rw [State.frames_setTop' g h.top] at hend
  obtain ⟨w', hP, ⟨hH', -⟩, L, k, n, hW₂, hsm, hL, hk, hn'⟩ := hq
  have hsm' : (T.calling g mk as.toArray).sameButNew ({ s₂ with vm := (T.calling g mk as.toArray).vm } : State) L k n := hsm
  obtain ⟨e2, q2, q3, q4, q5, q6⟩ := hsm'
  have e3 : s₂ = ({ (T.calling g mk as.toArray).setFrames s₂.frames with heap := s₂.heap, slotsUsed := s₂.slotsUsed } : State).setVm s₂.vm := by
    have e4 : s₂ = ({ s₂ with vm := (T.calling g mk as.toArray).vm } : State).setVm s₂.vm := rfl
    rw [e2] at e4
    exact e4
  have hW' : T.WarmedH s₂.vm := hW₂
  obtain ⟨g₀, hg0⟩ := Option.isSome_iff_exists.mp h.top
  obtain ⟨r, hr⟩ := State.topJava?_eq_some.mp hg0
  have hr' : (({ T with heap := s₂.heap, slotsUsed := s₂.slotsUsed } : State).setVm s₂.vm).frames = .java g₀ :: r := hr
  have hsame : T.sameButNew ({ T with heap := s₂.heap, slotsUsed := s₂.slotsUsed } : State) L k n := by
    refine ⟨?_, q2, q3, q4, q5, q6⟩
    obtain ⟨t, ht, -⟩ := State.frames_cons hr
    show ({ T with heap := s₂.heap, slotsUsed := s₂.slotsUsed } : State) = { T.setFrames T.frames with heap := s₂.heap, slotsUsed := s₂.slotsUsed }
    rw [State.setFrames_self ht]
  refine ⟨o, w', ({ T with heap := s₂.heap, slotsUsed := s₂.slotsUsed } : State).setVm s₂.vm, L, k, n, hP, hH', ⟨X.admits, X.cas, X.clock, X.frames, X.room, X.hears, X.method, X.code, (X.here.setHeapUsed s₂.heap s₂.slotsUsed).setVm hW'.alike, X.tail, State.WarmedH.trans X.warmed hW', X.limits, X.bytes, X.same.trans (hsame.setVm s.vm)⟩, hL, hk, hn', ?_, ?_⟩
  · intro v hv
    subst hv
    obtain ⟨c₂, i₂, len₂, hc₂, hd₂, hf₂⟩ := hend
    have hcc : c₂ = c := by
      have h1 : s₂.code? g.method = T.code? g.method := by
        rw [State.code?_eq, State.code?_eq, hW'.alike.method?]
      exact Option.some.inj (hc₂.symm.trans (h1.trans h.code))
    subst hcc
    have hlen : len₂ = len := by rw [hdg] at hd₂; cases hd₂; rfl
    subst hlen
    have hs₂ : s₂ = (({ T with heap := s₂.heap, slotsUsed := s₂.slotsUsed } : State).setVm s₂.vm).setTop { g with pc := g.pc + len₂, stack := v.toList ++ g.stack } := by
      refine e3.trans ?_
      rw [hf₂, State.calling_eq h.top, State.setFrames_setFrames, State.setTop_of_frames _ hr', hr]
      rfl
    rw [← hs₂]
    exact hsteps
  · intro a ha
    subst ha
    have hf₂ : s₂.frames = .throwing a :: .java g :: T.frames.tail := hend
    have hs₂ : s₂ = ((({ T with heap := s₂.heap, slotsUsed := s₂.slotsUsed } : State).setVm s₂.vm).setTop g).pushFrame (.throwing a) := by
      refine e3.trans ?_
      rw [hf₂, State.calling_eq h.top, State.setFrames_setFrames, State.pushFrame, State.frames_setTop _ hr', State.setTop_of_frames _ hr', State.setFrames_setFrames, hr]
      rfl
    rw [← hs₂]
    exact hsteps
/-- THE WALK WHILE a IS THROWN, over the frame at pc -/
def fxWt (G : fxG) (x : fxX) (H : Heap) (locs : List Loc) (cells slots : Nat) (Q : State → Prop) (pc : Nat) (sl : Array Slot) (st : List Value) (a : Nat) : Prop :=
  match x with
  | (p, e, R, s, m, args, below, meth, c, _, _) => ∀ T : State, T.heap = H → Stand p (fxl G) e R s m args below meth c T locs cells slots → ∃ t, Steps p.tables e below ((T.setTop (F0 m pc sl st)).pushFrame (.throwing a)) t ∧ Q t
def fxRt (G : fxG) (nL : Nat) (x : fxX) (Q : State → Prop) (w : fxW) (pc : Nat) (ls : List (Nat × Value)) (st : List Value) (a : Nat) : Prop :=
  ∀ (H : Heap) (locs : List Loc) (sl : Array Slot) (cells slots : Nat), fxH G w H → (∀ q ∈ locs, fxb G ≤ q.base) → lv_has sl nL ls → fxt0 x + cells = fxt w → fxu0 x + slots = fxu w → fxWt G x H locs cells slots Q pc sl st a
section FXC
variable {G : fxG} {d nL : Nat} {cc : ByteArray} {own nm : String} {ret : Option FieldType} {hh : List (Nat × Nat × Nat × Nat)} {x : fxX} {Q : State → Prop} {w : fxW} {pc : Nat} {ls : List (Nat × Value)} {st : List Value}
theorem r_athrow (C : fxC G d cc nL own nm ret hh x) {a : Nat} (hd : decode cc pc = .ok (.athrow, 1)) (k : fxRt G nL x Q w pc ls st a) : fxR G nL x Q w pc ls (.ref a :: st) := by
  obtain ⟨p, e, R, s, m, args, below, meth, c, t0, u0⟩ := x
  obtain ⟨hx, hb, C2⟩ := C
  intro H locs sl cells slots h1 h2 h3 h4 h5 T hT X
  obtain ⟨t, a1, b1⟩ := k H locs sl cells slots h1 h2 h3 h4 h5 T hT X
  refine ⟨t, ?_, b1⟩
  subst hb
  jvm_step X.here [hx, hd, Op.athrow.wp_sem]
  exact a1
/-- out of the method -/
theorem rt_out (C : fxC G d cc nL own nm ret hh x) {P : Outcome → fxW → Prop} {a : Nat} (hh0 : hh.all (fun q => !(decide (q.1 ≤ pc) && decide (pc < q.2.1))) = true) (k : P (.threw a) w) : fxRt G nL x (fxQ G x P) w pc ls st a := by
  obtain ⟨p, e, R, s, m, args, below, meth, c, t0, u0⟩ := x
  obtain ⟨hx, hb, hml, hown, hts, hV, hrt, hlk, hnmn, hsz, hRc, hRs, hfr, hlo, hbt, hex, hadm⟩ := C
  intro H locs sl cells slots h1 h2 h3 h4 h5 T hT X
  obtain ⟨a1, a2, a3, a4, a5⟩ := X.leaveThrown a (g := F0 m pc sl st) rfl rfl rfl (fun y hy => by
    have h9 := List.all_eq_true.mp hh0 (y.startPc, y.endPc, y.handlerPc, y.catchType) (by rw [← hex]; exact List.mem_map.mpr ⟨y, hy, rfl⟩)
    simp only [Bool.not_eq_true'] at h9
    exact h9) hlk
  exact ⟨_, a1, _, a2, a3, w, k, ⟨by show fxH G w T.heap; rw [hT]; exact h1, hV.moved a4⟩, locs, cells, slots, a4, a5, h2, h4, h5⟩
theorem fx_room {t0 u0 cells slots : Nat} {R : Room} (h1 : t0 + R.cells = fxmt G) (h2 : u0 + R.slots = fxmu G) (h3 : t0 + cells = fxt w) (h4 : u0 + slots = fxu w) (h5 : fxt w ≤ fxmt G) (h6 : fxu w ≤ fxmu G) : cells + (fxmt G - fxt w) ≤ R.cells ∧ slots + (fxmu G - fxu w) ≤ R.slots := by
  constructor <;> omega
/-- behind any invoke that has been linked -/
theorem fx_call {p : Program} {e : Env} {R : Room} {s : State} {m : MethodId} {args : Array Value} {below : List Frame} {meth : Method} {c : Code} {t0 u0 : Nat} (C : fxC G d cc nL own nm ret hh (p, e, R, s, m, args, below, meth, c, t0, u0)) {d' maxL : Nat} {y : MethodName} {as : List Value} {P : Outcome → fxW → Prop} (hM : fxM G d' y as w P) (hdd : d' < d) (hml0 : maxL ≤ 19) (hini : Cond.initialized y.cls ∈ fxTW) {ig : Instr} {len : Nat} (hd : decode cc pc = .ok (ig, len)) {rest : List Value} (hst : (rest.map fun v => v.category).sum ≤ 8)
    (k1 : ∀ v w', P (.returned v) w' → fxR G nL (p, e, R, s, m, args, below, meth, c, t0, u0) Q w' (pc + len) ls (v.toList ++ rest)) (k2 : ∀ a w', P (.threw a) w' → fxRt G nL (p, e, R, s, m, args, below, meth, c, t0, u0) Q w' pc ls rest a)
    {H : Heap} {locs : List Loc} {sl : Array Slot} {cells slots : Nat} (h1 : fxH G w H) (h2 : ∀ q ∈ locs, fxb G ≤ q.base) (h3 : lv_has sl nL ls) (h4 : t0 + cells = fxt w) (h5 : u0 + slots = fxu w) {T : State} (hT : T.heap = H) (X : Stand p (fxl G) e R s m args below meth c T locs cells slots) {mk : MethodId} (hn : s.methodNamed? y = some mk) (hcode : ∃ (methY : Method) (cY : Code), s.vm.method? mk = some methY ∧ methY.code = some cY ∧ cY.maxLocals = maxL) :
    ∃ t, Steps p.tables e below (doInvoke e (T.setTop (F0 m pc sl rest)) [] mk as.toArray).1 t ∧ Q t := by
  obtain ⟨hx, hb, hml, hown, hts, hV, hrt, hlk, hnmn, hsz, hRc, hRs, hfr, hlo, hbt, hex, hadm⟩ := C
  subst hb
  subst hT
  obtain ⟨r1, r2⟩ := fx_room hRc hRs h4 h5 h1.2.2.2.1 h1.2.2.2.2.1
  obtain ⟨methY, cY, hm1, hm2, hm3⟩ := hcode
  obtain ⟨o, w', T', L, k, n, hP, hH', X', hL, hk, hn', s1, s2⟩ := fx_back X hM h1 (hV.moved X.warmed) hts (X.named hn) ⟨methY, cY, by rw [X.warmed.alike.method?]; exact hm1, hm2, hm3⟩ hini (by omega) (by omega) r1 r2 (g := F0 m pc sl rest) rfl (by rw [hml]; exact h3.1) (by show 2 * 0 + (rest.map fun v => v.category).sum ≤ 8; omega) hd
  have hL' : ∀ q ∈ locs ++ L, fxb G ≤ q.base := fun q hq => by
    rcases List.mem_append.mp hq with h | h
    · exact h2 q h
    · exact hL q h
  cases o with
  | returned v =>
    obtain ⟨t, a1, b1⟩ := k1 v w' hP T'.heap (locs ++ L) sl (cells + k) (slots + n) hH' hL' h3 (by show t0 + (cells + k) = _; omega) (by show u0 + (slots + n) = _; omega) T' rfl X'
    exact ⟨t, (s1 v rfl).trans a1, b1⟩
  | threw a =>
    obtain ⟨t, a1, b1⟩ := k2 a w' hP T'.heap (locs ++ L) sl (cells + k) (slots + n) hH' hL' h3 (by show t0 + (cells + k) = _; omega) (by show u0 + (slots + n) = _; omega) T' rfl X'
    exact ⟨t, (s2 a rfl).trans a1, b1⟩

theorem r_callV (C : fxC G d cc nL own nm ret hh x) {y : MethodName} {ccy : ByteArray} {rety : Option FieldType} {hhy : List (Nat × Nat × Nat × Nat)} {T0 : u_T} {N0 idx b ci n0 d' maxL : Nat} {Cn : String} {As rest : List Value} {P : Outcome → fxW → Prop} (hd : decode cc pc = .ok (.invokevirtual idx, 3)) (hl : Cond.methodLink own idx y ∈ fxTW) (hin : Cond.instanceMethod y ∈ fxTW) (hse : Cond.selects Cn y y ∈ fxTW) (hcd : fxcode y ccy maxL rety hhy ∈ fxTW) (hini : Cond.initialized y.cls ∈ fxTW) (hy : y.cls ≠ "java/lang/invoke/MethodHandle" ∧ y.cls ≠ "java/lang/invoke/VarHandle") (hnp : (parseMethodDescriptor y.desc).map (fun q => q.parameters.length) = some As.length) (hml0 : maxL ≤ 19) (hci : ci < 100) (hc : fxCl[ci]? = some (Cn, T0, N0)) (hb9 : fxk w b = some (ci, n0)) (hM : fxM G d' y (.ref b :: As) w P) (hdd : d' < d) (hst : (rest.map fun v => v.category).sum ≤ 8) (hstk : st = As.reverse ++ .ref b :: rest) (k1 : ∀ v w', P (.returned v) w' → fxR G nL x Q w' (pc + 3) ls (v.toList ++ rest)) (k2 : ∀ a w', P (.threw a) w' → fxRt G nL x Q w' pc ls rest a) : fxR G nL x Q w pc ls st := by
  obtain ⟨p, e, R, s, m, args, below, meth, c, t0, u0⟩ := x
  have C' := C
  obtain ⟨hx, hb, hml, hown, hts, hV, C2⟩ := C
  subst hstk
  have hlen : ∀ sig, parseMethodDescriptor y.desc = some sig → As.length = sig.parameters.length := fun sig h => by
    rw [h] at hnp; exact (Option.some.inj hnp).symm
  intro H locs sl cells slots h1 h2 h3 h4 h5 T hT X
  obtain ⟨-, r, hr, cell, q1, q2, q3, q4⟩ := h1.obj hb9 hci
  cases hr.symm.trans hc
  have hcls : s.vm.findClass Cn = some cell.cls := by rw [q2]; exact (hV.1.1 ci _ hc).2.1
  obtain ⟨mk, methM, hnamed, hmethM, hstM, habM⟩ := Cond.instanceMethod_spec (hts _ hin)
  obtain ⟨methM', cM, hmethM', hcM, -, hmL, -, -, -, hsigM⟩ := fxcode_spec hnamed (hts _ hcd)
  cases hmethM.symm.trans hmethM'
  obtain ⟨c2, r2, m2, g1, g2, g3, g4, kP, hkP, hkPi⟩ := Cond.selects_spec (hts _ hse)
  cases hcls.symm.trans g1
  cases (State.methodFound?_of_named hnamed hy).symm.trans g2
  cases hnamed.symm.trans g3
  have hselP : selectMethod e.platform s.vm cell.cls mk = .method mk := by rw [Launch.admits_selectMethod X.admits]; exact g4
  obtain ⟨vm₁, X₁, hstep₁⟩ := X.invokevirtual hx hown (hts _ hl) hnamed hmethM hstM hkP hkPi hy (a := b) (cell := cell) (by rw [hT]; exact q1)
    (fun z h => by rw [q3] at h; cases h) hselP hmethM habM hkP hkPi (g := F0 m pc sl (As.reverse ++ .ref b :: rest)) rfl (argsL := As) (rest := rest) (hlen _ hsigM) rfl (by rw [hb]; exact hd)
  obtain ⟨t, a1, b1⟩ := fx_call C' hM hdd hml0 hini hd hst k1 k2 h1 h2 h3 h4 h5 (T := T.setVm vm₁) hT X₁ hnamed ⟨methM, cM, hmethM, hcM, hmL⟩
  exact ⟨t, hstep₁ _ fun acts => by rw [doInvoke_state]; exact a1, b1⟩
theorem r_callS (C : fxC G d cc nL own nm ret hh x) {y : MethodName} {ccy : ByteArray} {rety : Option FieldType} {hhy : List (Nat × Nat × Nat × Nat)} {idx d' maxL : Nat} {As rest : List Value} {P : Outcome → fxW → Prop} (hd : decode cc pc = .ok (.invokestatic idx, 3)) (hl : Cond.methodLink own idx y ∈ fxTW) (hst0 : Cond.static y ∈ fxTW) (hcd : fxcode y ccy maxL rety hhy ∈ fxTW) (hini : Cond.initialized y.cls ∈ fxTW) (hy : y.cls ≠ "java/lang/invoke/MethodHandle" ∧ y.cls ≠ "java/lang/invoke/VarHandle") (hnp : (parseMethodDescriptor y.desc).map (fun q => q.parameters.length) = some As.length) (hml0 : maxL ≤ 19) (hM : fxM G d' y As w P) (hdd : d' < d) (hst : (rest.map fun v => v.category).sum ≤ 8) (hstk : st = As.reverse ++ rest) (k1 : ∀ v w', P (.returned v) w' → fxR G nL x Q w' (pc + 3) ls (v.toList ++ rest)) (k2 : ∀ a w', P (.threw a) w' → fxRt G nL x Q w' pc ls rest a) : fxR G nL x Q w pc ls st := by
  obtain ⟨p, e, R, s, m, args, below, meth, c, t0, u0⟩ := x
  have C' := C
  obtain ⟨hx, hb, hml, hown, hts, hV, C2⟩ := C
  subst hstk
  have hlen : ∀ sig, parseMethodDescriptor y.desc = some sig → As.length = sig.parameters.length := fun sig h => by
    rw [h] at hnp; exact (Option.some.inj hnp).symm
  intro H locs sl cells slots h1 h2 h3 h4 h5 T hT X
  obtain ⟨mk, hnamed⟩ := fxcode_named (hts _ hcd)
  obtain ⟨methM, cM, hmethM, hcM, -, hmL, -, -, -, hsigM⟩ := fxcode_spec hnamed (hts _ hcd)
  have hstatic : methM.isStatic = true := Cond.static_spec hnamed hmethM (hts _ hst0)
  obtain ⟨kP, hkP, -⟩ := className_of_methodNamed hnamed
  have hinitP : kP.init = .initialized := Cond.initialized_spec (findClass_of_methodNamed hnamed) hkP (hts _ hini)
  obtain ⟨vm₁, X₁, hstep₁⟩ := X.invokestatic hx hown (hts _ hl) hnamed hmethM hstatic hkP hinitP hy (g := F0 m pc sl (As.reverse ++ rest)) rfl (argsL := As) (rest := rest) (hlen _ hsigM) rfl (by rw [hb]; exact hd)
  obtain ⟨t, a1, b1⟩ := fx_call C' hM hdd hml0 hini hd hst k1 k2 h1 h2 h3 h4 h5 (T := T.setVm vm₁) hT X₁ hnamed ⟨methM, cM, hmethM, hcM, hmL⟩
  exact ⟨t, hstep₁ _ fun acts => by rw [doInvoke_state]; exact a1, b1⟩
theorem r_callI (C : fxC G d cc nL own nm ret hh x) {y : MethodName} {ccy : ByteArray} {idx b d' maxL : Nat} {As rest : List Value} {P : Outcome → fxW → Prop} (hd : decode cc pc = .ok (.invokespecial idx, 3)) (hl : Cond.methodLink own idx y ∈ fxTW) (hy1 : y.name = "<init>") (hin : Cond.instanceMethod y ∈ fxTW) (hcd : Cond.code y ccy maxL none ∈ fxTW) (hini : Cond.initialized y.cls ∈ fxTW) (hy : y.cls ≠ "java/lang/invoke/MethodHandle" ∧ y.cls ≠ "java/lang/invoke/VarHandle") (hnp : (parseMethodDescriptor y.desc).map (fun q => q.parameters.length) = some As.length) (hml0 : maxL ≤ 19) (hM : fxM G d' y (.ref b :: As) w P) (hdd : d' < d) (hst : (rest.map fun v => v.category).sum ≤ 8) (hstk : st = As.reverse ++ .ref b :: rest) (k1 : ∀ v w', P (.returned v) w' → fxR G nL x Q w' (pc + 3) ls (v.toList ++ rest)) (k2 : ∀ a w', P (.threw a) w' → fxRt G nL x Q w' pc ls rest a) : fxR G nL x Q w pc ls st := by
  obtain ⟨p, e, R, s, m, args, below, meth, c, t0, u0⟩ := x
  have C' := C
  obtain ⟨hx, hb, hml, hown, hts, hV, C2⟩ := C
  subst hstk
  have hlen : ∀ sig, parseMethodDescriptor y.desc = some sig → As.length = sig.parameters.length := fun sig h => by
    rw [h] at hnp; exact (Option.some.inj hnp).symm
  intro H locs sl cells slots h1 h2 h3 h4 h5 T hT X
  have hpl : e.platform.magicAccessors = ({} : Platform).magicAccessors := by rw [X.admits.platform]
  obtain ⟨mk, methM, cM, kP, vm₁, hnamed, hmethM, hcodeM, -, hlocalsM, -, hkP, -, hW₁, hstep₁⟩ := Steps.initColdArgs (e := e) X.here hx X.warmed hpl hown hy1 hy (hts _ hl) (hts _ hin) (hts _ hcd) (f := F0 m pc sl (As.reverse ++ .ref b :: rest)) rfl hlen rfl (by rw [hb]; exact hd)
  have X₁ := X.noted hW₁
  obtain ⟨t, a1, b1⟩ := fx_call C' hM hdd hml0 hini hd hst k1 k2 h1 h2 h3 h4 h5 (T := T.setVm vm₁) hT X₁ hnamed ⟨methM, cM, hmethM, hcodeM, hlocalsM⟩
  exact ⟨t, hstep₁ _ fun acts => by rw [doInvoke_state]; exact a1, b1⟩
theorem r_callVN (C : fxC G d cc nL own nm ret hh x) {y : MethodName} {ccy : ByteArray} {rety : Option FieldType} {hhy : List (Nat × Nat × Nat × Nat)} {host : String} {T0 : u_T} {N0 idx b ci n0 d' maxL : Nat} {Cn : String} {As rest : List Value} {P : Outcome → fxW → Prop} (hd : decode cc pc = .ok (.invokevirtual idx, 3)) (hl : Cond.methodLinkNest own idx y host ∈ fxTW) (hin : Cond.instanceMethod y ∈ fxTW) (hse : Cond.selects Cn y y ∈ fxTW) (hcd : fxcode y ccy maxL rety hhy ∈ fxTW) (hini : Cond.initialized y.cls ∈ fxTW) (hy : y.cls ≠ "java/lang/invoke/MethodHandle" ∧ y.cls ≠ "java/lang/invoke/VarHandle") (hnp : (parseMethodDescriptor y.desc).map (fun q => q.parameters.length) = some As.length) (hml0 : maxL ≤ 19) (hci : ci < 100) (hc : fxCl[ci]? = some (Cn, T0, N0)) (hb9 : fxk w b = some (ci, n0)) (hM : fxM G d' y (.ref b :: As) w P) (hdd : d' < d) (hst : (rest.map fun v => v.category).sum ≤ 8) (hstk : st = As.reverse ++ .ref b :: rest) (k1 : ∀ v w', P (.returned v) w' → fxR G nL x Q w' (pc + 3) ls (v.toList ++ rest)) (k2 : ∀ a w', P (.threw a) w' → fxRt G nL x Q w' pc ls rest a) : fxR G nL x Q w pc ls st := by
  obtain ⟨p, e, R, s, m, args, below, meth, c, t0, u0⟩ := x
  have C' := C
  obtain ⟨hx, hb, hml, hown, hts, hV, C2⟩ := C
  subst hstk
  have hlen : ∀ sig, parseMethodDescriptor y.desc = some sig → As.length = sig.parameters.length := fun sig h => by
    rw [h] at hnp; exact (Option.some.inj hnp).symm
  intro H locs sl cells slots h1 h2 h3 h4 h5 T hT X
  obtain ⟨-, r, hr, cell, q1, q2, q3, q4⟩ := h1.obj hb9 hci
  cases hr.symm.trans hc
  have hcls : s.vm.findClass Cn = some cell.cls := by rw [q2]; exact (hV.1.1 ci _ hc).2.1
  obtain ⟨mk, methM, hnamed, hmethM, hstM, habM⟩ := Cond.instanceMethod_spec (hts _ hin)
  obtain ⟨methM', cM, hmethM', hcM, -, hmL, -, -, -, hsigM⟩ := fxcode_spec hnamed (hts _ hcd)
  cases hmethM.symm.trans hmethM'
  obtain ⟨c2, r2, m2, g1, g2, g3, g4, kP, hkP, hkPi⟩ := Cond.selects_spec (hts _ hse)
  cases hcls.symm.trans g1
  cases (State.methodFound?_of_named hnamed hy).symm.trans g2
  cases hnamed.symm.trans g3
  have hselP : selectMethod e.platform s.vm cell.cls mk = .method mk := by rw [Launch.admits_selectMethod X.admits]; exact g4
  obtain ⟨vm₁, X₁, hstep₁⟩ := X.invokevirtualNest hx hown (hts _ hl) hnamed hmethM hstM hkP hkPi hy (a := b) (cell := cell) (by rw [hT]; exact q1)
    (fun z h => by rw [q3] at h; cases h) hselP hmethM habM hkP hkPi (g := F0 m pc sl (As.reverse ++ .ref b :: rest)) rfl (argsL := As) (rest := rest) (hlen _ hsigM) rfl (by rw [hb]; exact hd)
  obtain ⟨t, a1, b1⟩ := fx_call C' hM hdd hml0 hini hd hst k1 k2 h1 h2 h3 h4 h5 (T := T.setVm vm₁) hT X₁ hnamed ⟨methM, cM, hmethM, hcM, hmL⟩
  exact ⟨t, hstep₁ _ fun acts => by rw [doInvoke_state]; exact a1, b1⟩
theorem r_callSN (C : fxC G d cc nL own nm ret hh x) {y : MethodName} {ccy : ByteArray} {rety : Option FieldType} {hhy : List (Nat × Nat × Nat × Nat)} {host : String} {idx d' maxL : Nat} {As rest : List Value} {P : Outcome → fxW → Prop} (hd : decode cc pc = .ok (.invokestatic idx, 3)) (hl : Cond.methodLinkNest own idx y host ∈ fxTW) (hst0 : Cond.static y ∈ fxTW) (hcd : fxcode y ccy maxL rety hhy ∈ fxTW) (hini : Cond.initialized y.cls ∈ fxTW) (hy : y.cls ≠ "java/lang/invoke/MethodHandle" ∧ y.cls ≠ "java/lang/invoke/VarHandle") (hnp : (parseMethodDescriptor y.desc).map (fun q => q.parameters.length) = some As.length) (hml0 : maxL ≤ 19) (hM : fxM G d' y As w P) (hdd : d' < d) (hst : (rest.map fun v => v.category).sum ≤ 8) (hstk : st = As.reverse ++ rest) (k1 : ∀ v w', P (.returned v) w' → fxR G nL x Q w' (pc + 3) ls (v.toList ++ rest)) (k2 : ∀ a w', P (.threw a) w' → fxRt G nL x Q w' pc ls rest a) : fxR G nL x Q w pc ls st := by
  obtain ⟨p, e, R, s, m, args, below, meth, c, t0, u0⟩ := x
  have C' := C
  obtain ⟨hx, hb, hml, hown, hts, hV, C2⟩ := C
  subst hstk
  have hlen : ∀ sig, parseMethodDescriptor y.desc = some sig → As.length = sig.parameters.length := fun sig h => by
    rw [h] at hnp; exact (Option.some.inj hnp).symm
  intro H locs sl cells slots h1 h2 h3 h4 h5 T hT X
  obtain ⟨mk, hnamed⟩ := fxcode_named (hts _ hcd)
  obtain ⟨methM, cM, hmethM, hcM, -, hmL, -, -, -, hsigM⟩ := fxcode_spec hnamed (hts _ hcd)
  have hstatic : methM.isStatic = true := Cond.static_spec hnamed hmethM (hts _ hst0)
  obtain ⟨kP, hkP, -⟩ := className_of_methodNamed hnamed
  have hinitP : kP.init = .initialized := Cond.initialized_spec (findClass_of_methodNamed hnamed) hkP (hts _ hini)
  obtain ⟨vm₁, X₁, hstep₁⟩ := X.invokestaticNest hx hown (hts _ hl) hnamed hmethM hstatic hkP hinitP hy (g := F0 m pc sl (As.reverse ++ rest)) rfl (argsL := As) (rest := rest) (hlen _ hsigM) rfl (by rw [hb]; exact hd)
  obtain ⟨t, a1, b1⟩ := fx_call C' hM hdd hml0 hini hd hst k1 k2 h1 h2 h3 h4 h5 (T := T.setVm vm₁) hT X₁ hnamed ⟨methM, cM, hmethM, hcM, hmL⟩
  exact ⟨t, hstep₁ _ fun acts => by rw [doInvoke_state]; exact a1, b1⟩
theorem r_callIN (C : fxC G d cc nL own nm ret hh x) {y : MethodName} {ccy : ByteArray} {host : String} {idx b d' maxL : Nat} {As rest : List Value} {P : Outcome → fxW → Prop} (hd : decode cc pc = .ok (.invokespecial idx, 3)) (hl : Cond.methodLinkNest own idx y host ∈ fxTW) (hy1 : y.name = "<init>") (hin : Cond.instanceMethod y ∈ fxTW) (hcd : Cond.code y ccy maxL none ∈ fxTW) (hini : Cond.initialized y.cls ∈ fxTW) (hy : y.cls ≠ "java/lang/invoke/MethodHandle" ∧ y.cls ≠ "java/lang/invoke/VarHandle") (hnp : (parseMethodDescriptor y.desc).map (fun q => q.parameters.length) = some As.length) (hml0 : maxL ≤ 19) (hM : fxM G d' y (.ref b :: As) w P) (hdd : d' < d) (hst : (rest.map fun v => v.category).sum ≤ 8) (hstk : st = As.reverse ++ .ref b :: rest) (k1 : ∀ v w', P (.returned v) w' → fxR G nL x Q w' (pc + 3) ls (v.toList ++ rest)) (k2 : ∀ a w', P (.threw a) w' → fxRt G nL x Q w' pc ls rest a) : fxR G nL x Q w pc ls st := by
  obtain ⟨p, e, R, s, m, args, below, meth, c, t0, u0⟩ := x
  have C' := C
  obtain ⟨hx, hb, hml, hown, hts, hV, C2⟩ := C
  subst hstk
  have hlen : ∀ sig, parseMethodDescriptor y.desc = some sig → As.length = sig.parameters.length := fun sig h => by
    rw [h] at hnp; exact (Option.some.inj hnp).symm
  intro H locs sl cells slots h1 h2 h3 h4 h5 T hT X
  have hpl : e.platform.magicAccessors = ({} : Platform).magicAccessors := by rw [X.admits.platform]
  obtain ⟨mk, methM, cM, kP, vm₁, hnamed, hmethM, hcodeM, -, hlocalsM, -, hkP, -, hW₁, hstep₁⟩ := Steps.initColdArgsNest (e := e) X.here hx X.warmed hpl hown hy1 hy (hts _ hl) (hts _ hin) (hts _ hcd) (f := F0 m pc sl (As.reverse ++ .ref b :: rest)) rfl hlen rfl (by rw [hb]; exact hd)
  have X₁ := X.noted hW₁
  obtain ⟨t, a1, b1⟩ := fx_call C' hM hdd hml0 hini hd hst k1 k2 h1 h2 h3 h4 h5 (T := T.setVm vm₁) hT X₁ hnamed ⟨methM, cM, hmethM, hcodeM, hlocalsM⟩
  exact ⟨t, hstep₁ _ fun acts => by rw [doInvoke_state]; exact a1, b1⟩
theorem r_objInit (C : fxC G d cc nL own nm ret hh x) {idx b : Nat} (hd : decode cc pc = .ok (.invokespecial idx, 3)) (hl : Cond.methodLink own idx Lib.objectInit ∈ fxTW) (hin : Cond.instanceMethod Lib.objectInit ∈ fxTW) (hcd : Cond.code Lib.objectInit ⟨#[0xb1]⟩ 1 none ∈ fxTW) (h1 : 1 ≤ d) (hst : (st.map fun v => v.category).sum ≤ 8) (k : fxR G nL x Q w (pc + 3) ls st) : fxR G nL x Q w pc ls (.ref b :: st) := by
  obtain ⟨p, e, R, s, m, args, below, meth, c, t0, u0⟩ := x
  obtain ⟨hx, hb, hml, hown, hts, hV, hrt, hlk, hnmn, hsz, hRc, hRs, hfr, hlo, C2⟩ := C
  intro H locs sl cells slots h1' h2 h3 h4 h5
  exact W.objInit hx hb hown (hts _ hl) (hts _ hin) (hts _ hcd) rfl (by rw [hml]; exact h3.1) rfl hd (by omega) (by show 2 * 0 + (st.map fun v => v.category).sum + 12 ≤ R.locals; omega) (k H locs sl cells slots h1' h2 h3 h4 h5)
theorem r_ldc2 (C : fxC G d cc nL own nm ret hh x) {idx : Nat} {v : Int64} (hd : decode cc pc = .ok (.ldc2_w idx, 3)) (hl : Cond.constantLong own idx v ∈ fxTW) (k : fxR G nL x Q w (pc + 3) ls (.long v :: st)) : fxR G nL x Q w pc ls st := by
  obtain ⟨p, e, R, s, m, args, below, meth, c, t0, u0⟩ := x
  obtain ⟨hx, hb, hml, hown, hts, C2⟩ := C
  intro H locs sl cells slots h1 h2 h3 h4 h5
  exact lv_ldc2 hx hb hown (hts _ hl) hd (k H locs sl cells slots h1 h2 h3 h4 h5)
theorem r_ldc (C : fxC G d cc nL own nm ret hh x) {idx : Nat} {v : Int32} (hd : decode cc pc = .ok (.ldc idx, 2)) (hl : Cond.constant own idx v ∈ fxTW) (k : fxR G nL x Q w (pc + 2) ls (.int v :: st)) : fxR G nL x Q w pc ls st := by
  obtain ⟨p, e, R, s, m, args, below, meth, c, t0, u0⟩ := x
  obtain ⟨hx, hb, hml, hown, hts, C2⟩ := C
  intro H locs sl cells slots h1 h2 h3 h4 h5
  exact lv_ldc hx hb hown (hts _ hl) hd (k H locs sl cells slots h1 h2 h3 h4 h5)
/-- a contract's end may be weakened -/
theorem fxM.mono {y : MethodName} {as : List Value} {P P' : Outcome → fxW → Prop} (h : fxM G d y as w P) (hp : ∀ o w', P o w' → P' o w') : fxM G d y as w P' := by
  intro p e ha hc hk s m args below hf happ hP hK
  obtain ⟨n, o, a1, a2, a3, w', b1, b2⟩ := h p e ha hc hk s m args below hf happ hP hK
  exact ⟨n, o, a1, a2, a3, w', hp _ _ b1, b2⟩
end FXC
end
section
/-! INTS AS INTEGERS: zi e is the Java int of the Int e; within bounds compares are those of the integers -/
abbrev zi (e : Int) : Value := .int (Int32.ofInt e)
def zok (a : Int) : Prop := -2147483648 ≤ a ∧ a < 2147483648
theorem zok_toInt {a : Int} (h : zok a) : (Int32.ofInt a).toInt = a := by
  rw [Int32.toInt_ofInt, show Int32.size = 4294967296 from rfl]
  obtain ⟨h1, h2⟩ := h
  exact Int.bmod_eq_of_le (by omega) (by omega)
theorem zi_all (x : Int32) : x = Int32.ofInt x.toInt := by simp
theorem zok_all (x : Int32) : zok x.toInt := ⟨by have := Int32.le_toInt x; simpa using this, by have := Int32.toInt_lt x; simpa using this⟩
theorem z_add (a b : Int) : Int32.ofInt a + Int32.ofInt b = Int32.ofInt (a + b) := (Int32.ofInt_add a b).symm
theorem z_sub (a b : Int) : Int32.ofInt a - Int32.ofInt b = Int32.ofInt (a - b) := (Int32.ofInt_sub a b).symm
theorem z_mul (a b : Int) : Int32.ofInt a * Int32.ofInt b = Int32.ofInt (a * b) := (Int32.ofInt_mul a b).symm
theorem z_lt {a b : Int} (ha : zok a) (hb : zok b) : Int32.ofInt a < Int32.ofInt b ↔ a < b := by rw [Int32.lt_iff_toInt_lt, zok_toInt ha, zok_toInt hb]
theorem z_le {a b : Int} (ha : zok a) (hb : zok b) : Int32.ofInt a ≤ Int32.ofInt b ↔ a ≤ b := by rw [Int32.le_iff_toInt_le, zok_toInt ha, zok_toInt hb]
theorem z_eq {a b : Int} (ha : zok a) (hb : zok b) : Int32.ofInt a = Int32.ofInt b ↔ a = b := by
  constructor
  · intro h
    rw [← zok_toInt ha, ← zok_toInt hb, h]
  · intro h; rw [h]
theorem z_0 : (0 : Int32) = Int32.ofInt 0 := rfl
theorem z_nat (n : Nat) : Int32.ofNat n = Int32.ofInt (n : Int) := by
  apply Int32.toInt_inj.mp
  rw [Int32.toInt_ofNat', Int32.toInt_ofInt]
theorem z_in {j : Int} {k n : Nat} (hj : j = (k : Int)) (hk : k < n) (hn : n < 2147483648) : vp_in (Int32.ofInt j) n ∧ (Int32.ofInt j).toNatClampNeg = k := by
  subst hj
  rw [← z_nat]
  exact ⟨vp_in_nI hk hn, nI_clamp (by omega)⟩
theorem z_l {a : Int} (h : zok a) : (Int32.ofInt a).toInt64 = Int64.ofInt a := by
  apply Int64.toInt_inj.mp
  obtain ⟨h1, h2⟩ := h
  rw [Int32.toInt_toInt64, zok_toInt ⟨h1, h2⟩, Int64.toInt_ofInt, show Int64.size = 18446744073709551616 from rfl]
  exact (Int.bmod_eq_of_le (by omega) (by omega)).symm
section FXZ
variable {G : fxG} {d nL : Nat} {cc : ByteArray} {own nm : String} {ret : Option FieldType} {hh : List (Nat × Nat × Nat × Nat)} {x : fxX} {Q : State → Prop} {w : fxW} {pc : Nat} {ls : List (Nat × Value)} {st : List Value}

theorem zr_iadd (C : fxC G d cc nL own nm ret hh x) {a b : Int} (hd : decode cc pc = .ok (.iadd, 1)) (k : fxR G nL x Q w (pc + 1) ls (zi (a + b) :: st)) : fxR G nL x Q w pc ls (zi b :: zi a :: st) := r_iadd C hd (by rw [z_add]; exact k)
theorem zr_isub (C : fxC G d cc nL own nm ret hh x) {a b : Int} (hd : decode cc pc = .ok (.isub, 1)) (k : fxR G nL x Q w (pc + 1) ls (zi (a - b) :: st)) : fxR G nL x Q w pc ls (zi b :: zi a :: st) := r_isub C hd (by rw [z_sub]; exact k)
theorem zr_imul (C : fxC G d cc nL own nm ret hh x) {a b : Int} (hd : decode cc pc = .ok (.imul, 1)) (k : fxR G nL x Q w (pc + 1) ls (zi (a * b) :: st)) : fxR G nL x Q w pc ls (zi b :: zi a :: st) := r_imul C hd (by rw [z_mul]; exact k)
theorem zr_iinc (C : fxC G d cc nL own nm ret hh x) {i : Nat} {n y : Int} {ls' : List (Nat × Value)} (hd : decode cc pc = .ok (.iinc i n, 3)) (hy : fxL ls i = some (zi y)) (hn : i < nL) (hl : fxS1 i (zi (y + n)) ls = ls') (k : fxR G nL x Q w (pc + 3) ls' st) : fxR G nL x Q w pc ls st := r_iinc C hd hy (z_add y n) hn hl k
theorem zr_icmp_eq (C : fxC G d cc nL own nm ret hh x) {a b : Int} {off : Int} {tgt : Nat} (hd : decode cc pc = .ok (.if_icmp .eq off, 3)) (ht : (pc : Int) + off = (tgt : Int)) (ha : zok a) (hb : zok b) (k1 : a = b → fxR G nL x Q w tgt ls st) (k2 : ¬ a = b → fxR G nL x Q w (pc + 3) ls st) : fxR G nL x Q w pc ls (zi b :: zi a :: st) := r_icmp_eq C hd ht (fun h => k1 ((z_eq ha hb).mp h)) (fun h => k2 (fun q => h ((z_eq ha hb).mpr q)))
theorem zr_if_eq (C : fxC G d cc nL own nm ret hh x) {a : Int} {off : Int} {tgt : Nat} (hd : decode cc pc = .ok (.ifCond .eq off, 3)) (ht : (pc : Int) + off = (tgt : Int)) (ha : zok a) (k1 : a = 0 → fxR G nL x Q w tgt ls st) (k2 : ¬ a = 0 → fxR G nL x Q w (pc + 3) ls st) : fxR G nL x Q w pc ls (zi a :: st) := by
  have hb : zok 0 := ⟨by decide, by decide⟩
  exact r_if_eq C hd ht (fun h => k1 ((z_eq ha hb).mp h)) (fun h => k2 (fun q => h ((z_eq ha hb).mpr q)))
theorem zr_icmp_ne (C : fxC G d cc nL own nm ret hh x) {a b : Int} {off : Int} {tgt : Nat} (hd : decode cc pc = .ok (.if_icmp .ne off, 3)) (ht : (pc : Int) + off = (tgt : Int)) (ha : zok a) (hb : zok b) (k1 : ¬ a = b → fxR G nL x Q w tgt ls st) (k2 : a = b → fxR G nL x Q w (pc + 3) ls st) : fxR G nL x Q w pc ls (zi b :: zi a :: st) := r_icmp_ne C hd ht (fun h => k1 ((not_congr (z_eq ha hb)).mp h)) (fun h => k2 ((z_eq ha hb).mp h))
theorem zr_if_ne (C : fxC G d cc nL own nm ret hh x) {a : Int} {off : Int} {tgt : Nat} (hd : decode cc pc = .ok (.ifCond .ne off, 3)) (ht : (pc : Int) + off = (tgt : Int)) (ha : zok a) (k1 : ¬ a = 0 → fxR G nL x Q w tgt ls st) (k2 : a = 0 → fxR G nL x Q w (pc + 3) ls st) : fxR G nL x Q w pc ls (zi a :: st) := by
  have hb : zok 0 := ⟨by decide, by decide⟩
  exact r_if_ne C hd ht (fun h => k1 ((not_congr (z_eq ha hb)).mp h)) (fun h => k2 ((z_eq ha hb).mp h))
theorem zr_icmp_lt (C : fxC G d cc nL own nm ret hh x) {a b : Int} {off : Int} {tgt : Nat} (hd : decode cc pc = .ok (.if_icmp .lt off, 3)) (ht : (pc : Int) + off = (tgt : Int)) (ha : zok a) (hb : zok b) (k1 : a < b → fxR G nL x Q w tgt ls st) (k2 : ¬ a < b → fxR G nL x Q w (pc + 3) ls st) : fxR G nL x Q w pc ls (zi b :: zi a :: st) := r_icmp_lt C hd ht (fun h => k1 ((z_lt ha hb).mp h)) (fun h => k2 (fun q => h ((z_lt ha hb).mpr q)))
theorem zr_if_lt (C : fxC G d cc nL own nm ret hh x) {a : Int} {off : Int} {tgt : Nat} (hd : decode cc pc = .ok (.ifCond .lt off, 3)) (ht : (pc : Int) + off = (tgt : Int)) (ha : zok a) (k1 : a < 0 → fxR G nL x Q w tgt ls st) (k2 : ¬ a < 0 → fxR G nL x Q w (pc + 3) ls st) : fxR G nL x Q w pc ls (zi a :: st) := by
  have hb : zok 0 := ⟨by decide, by decide⟩
  exact r_if_lt C hd ht (fun h => k1 ((z_lt ha hb).mp h)) (fun h => k2 (fun q => h ((z_lt ha hb).mpr q)))
theorem zr_icmp_ge (C : fxC G d cc nL own nm ret hh x) {a b : Int} {off : Int} {tgt : Nat} (hd : decode cc pc = .ok (.if_icmp .ge off, 3)) (ht : (pc : Int) + off = (tgt : Int)) (ha : zok a) (hb : zok b) (k1 : b ≤ a → fxR G nL x Q w tgt ls st) (k2 : ¬ b ≤ a → fxR G nL x Q w (pc + 3) ls st) : fxR G nL x Q w pc ls (zi b :: zi a :: st) := r_icmp_ge C hd ht (fun h => k1 ((z_le hb ha).mp h)) (fun h => k2 (fun q => h ((z_le hb ha).mpr q)))
theorem zr_if_ge (C : fxC G d cc nL own nm ret hh x) {a : Int} {off : Int} {tgt : Nat} (hd : decode cc pc = .ok (.ifCond .ge off, 3)) (ht : (pc : Int) + off = (tgt : Int)) (ha : zok a) (k1 : 0 ≤ a → fxR G nL x Q w tgt ls st) (k2 : ¬ 0 ≤ a → fxR G nL x Q w (pc + 3) ls st) : fxR G nL x Q w pc ls (zi a :: st) := by
  have hb : zok 0 := ⟨by decide, by decide⟩
  exact r_if_ge C hd ht (fun h => k1 ((z_le hb ha).mp h)) (fun h => k2 (fun q => h ((z_le hb ha).mpr q)))
theorem zr_icmp_gt (C : fxC G d cc nL own nm ret hh x) {a b : Int} {off : Int} {tgt : Nat} (hd : decode cc pc = .ok (.if_icmp .gt off, 3)) (ht : (pc : Int) + off = (tgt : Int)) (ha : zok a) (hb : zok b) (k1 : b < a → fxR G nL x Q w tgt ls st) (k2 : ¬ b < a → fxR G nL x Q w (pc + 3) ls st) : fxR G nL x Q w pc ls (zi b :: zi a :: st) := r_icmp_gt C hd ht (fun h => k1 ((z_lt hb ha).mp h)) (fun h => k2 (fun q => h ((z_lt hb ha).mpr q)))
theorem zr_if_gt (C : fxC G d cc nL own nm ret hh x) {a : Int} {off : Int} {tgt : Nat} (hd : decode cc pc = .ok (.ifCond .gt off, 3)) (ht : (pc : Int) + off = (tgt : Int)) (ha : zok a) (k1 : 0 < a → fxR G nL x Q w tgt ls st) (k2 : ¬ 0 < a → fxR G nL x Q w (pc + 3) ls st) : fxR G nL x Q w pc ls (zi a :: st) := by
  have hb : zok 0 := ⟨by decide, by decide⟩
  exact r_if_gt C hd ht (fun h => k1 ((z_lt hb ha).mp h)) (fun h => k2 (fun q => h ((z_lt hb ha).mpr q)))
theorem zr_icmp_le (C : fxC G d cc nL own nm ret hh x) {a b : Int} {off : Int} {tgt : Nat} (hd : decode cc pc = .ok (.if_icmp .le off, 3)) (ht : (pc : Int) + off = (tgt : Int)) (ha : zok a) (hb : zok b) (k1 : a ≤ b → fxR G nL x Q w tgt ls st) (k2 : ¬ a ≤ b → fxR G nL x Q w (pc + 3) ls st) : fxR G nL x Q w pc ls (zi b :: zi a :: st) := r_icmp_le C hd ht (fun h => k1 ((z_le ha hb).mp h)) (fun h => k2 (fun q => h ((z_le ha hb).mpr q)))
theorem zr_if_le (C : fxC G d cc nL own nm ret hh x) {a : Int} {off : Int} {tgt : Nat} (hd : decode cc pc = .ok (.ifCond .le off, 3)) (ht : (pc : Int) + off = (tgt : Int)) (ha : zok a) (k1 : a ≤ 0 → fxR G nL x Q w tgt ls st) (k2 : ¬ a ≤ 0 → fxR G nL x Q w (pc + 3) ls st) : fxR G nL x Q w pc ls (zi a :: st) := by
  have hb : zok 0 := ⟨by decide, by decide⟩
  exact r_if_le C hd ht (fun h => k1 ((z_le ha hb).mp h)) (fun h => k2 (fun q => h ((z_le ha hb).mpr q)))
theorem zr_iaload (C : fxC G d cc nL own nm ret hh x) {a t n k : Nat} {j : Int} {v : Value} (hd : decode cc pc = .ok (.iaload, 1)) (ht : t < 100) (hty : fxAr[t]? = some .int) (ha : fxk w a = some (100 + t, n) ∨ fxk w a = some (200 + t, n)) (hj : j = (k : Int)) (hk : k < n) (hn : n < 2147483648) (hv : fxe w t a k = v) (kk : fxR G nL x Q w (pc + 1) ls (v :: st)) : fxR G nL x Q w pc ls (zi j :: .ref a :: st) := r_iaload C hd ht hty ha (z_in hj hk hn).1 (by rw [(z_in hj hk hn).2]; exact hv) kk
theorem zr_laload (C : fxC G d cc nL own nm ret hh x) {a t n k : Nat} {j : Int} {v : Value} (hd : decode cc pc = .ok (.laload, 1)) (ht : t < 100) (hty : fxAr[t]? = some .long) (ha : fxk w a = some (100 + t, n) ∨ fxk w a = some (200 + t, n)) (hj : j = (k : Int)) (hk : k < n) (hn : n < 2147483648) (hv : fxe w t a k = v) (kk : fxR G nL x Q w (pc + 1) ls (v :: st)) : fxR G nL x Q w pc ls (zi j :: .ref a :: st) := r_laload C hd ht hty ha (z_in hj hk hn).1 (by rw [(z_in hj hk hn).2]; exact hv) kk
theorem zr_aaload (C : fxC G d cc nL own nm ret hh x) {a t n k : Nat} {j : Int} {v : Value} {ty : FieldType} (hd : decode cc pc = .ok (.aaload, 1)) (ht : t < 100) (hty : fxAr[t]? = some ty) (href : ty.isReference = true) (ha : fxk w a = some (100 + t, n) ∨ fxk w a = some (200 + t, n)) (hj : j = (k : Int)) (hk : k < n) (hn : n < 2147483648) (hv : fxe w t a k = v) (kk : fxR G nL x Q w (pc + 1) ls (v :: st)) : fxR G nL x Q w pc ls (zi j :: .ref a :: st) := r_aaload C hd ht hty href ha (z_in hj hk hn).1 (by rw [(z_in hj hk hn).2]; exact hv) kk
theorem zr_iastore (C : fxC G d cc nL own nm ret hh x) {a t n k : Nat} {j : Int} {v : Int32} (hd : decode cc pc = .ok (.iastore, 1)) (ht : t < 100) (hty : fxAr[t]? = some .int) (ha : fxk w a = some (100 + t, n)) (hj : j = (k : Int)) (hk : k < n) (hn : n < 2147483648) (kk : fxR G nL x Q (fx_ast w t a k (.int v)) (pc + 1) ls st) : fxR G nL x Q w pc ls (.int v :: zi j :: .ref a :: st) := r_iastore C hd ht hty ha (z_in hj hk hn).1 (by rw [(z_in hj hk hn).2]; exact kk)
theorem zr_lastore (C : fxC G d cc nL own nm ret hh x) {a t n k : Nat} {j : Int} {v : Int64} (hd : decode cc pc = .ok (.lastore, 1)) (ht : t < 100) (hty : fxAr[t]? = some .long) (ha : fxk w a = some (100 + t, n)) (hj : j = (k : Int)) (hk : k < n) (hn : n < 2147483648) (kk : fxR G nL x Q (fx_ast w t a k (.long v)) (pc + 1) ls st) : fxR G nL x Q w pc ls (.long v :: zi j :: .ref a :: st) := r_lastore C hd ht hty ha (z_in hj hk hn).1 (by rw [(z_in hj hk hn).2]; exact kk)
theorem zr_aastore (C : fxC G d cc nL own nm ret hh x) {a b t n n' ci k : Nat} {j : Int} {r : vw_C} {E : String} (hd : decode cc pc = .ok (.aastore, 1)) (ht : t < 100) (hty : fxAr[t]? = some (.object E)) (ha : fxk w a = some (100 + t, n)) (hb9 : fxk w b = some (ci, n')) (hci : ci < 100) (hc : fxCl[ci]? = some r) (hca : r.1 = E ∨ Cond.castable r.1 E ∈ fxTW) (hj : j = (k : Int)) (hk : k < n) (hn : n < 2147483648) (kk : fxR G nL x Q (fx_ast w t a k (.ref b)) (pc + 1) ls st) : fxR G nL x Q w pc ls (.ref b :: zi j :: .ref a :: st) := r_aastore C hd ht hty ha hb9 hci hc hca (z_in hj hk hn).1 (by rw [(z_in hj hk hn).2]; exact kk)
theorem zr_aastoreN (C : fxC G d cc nL own nm ret hh x) {a t n k : Nat} {j : Int} {E : String} (hd : decode cc pc = .ok (.aastore, 1)) (ht : t < 100) (hty : fxAr[t]? = some (.object E)) (ha : fxk w a = some (100 + t, n)) (hj : j = (k : Int)) (hk : k < n) (hn : n < 2147483648) (kk : fxR G nL x Q (fx_ast w t a k .null) (pc + 1) ls st) : fxR G nL x Q w pc ls (.null :: zi j :: .ref a :: st) := r_aastoreN C hd ht hty ha (z_in hj hk hn).1 (by rw [(z_in hj hk hn).2]; exact kk)
theorem zr_alen (C : fxC G d cc nL own nm ret hh x) {a t n : Nat} (hd : decode cc pc = .ok (.arraylength, 1)) (ht : t < 100) (ha : fxk w a = some (100 + t, n) ∨ fxk w a = some (200 + t, n)) (k : fxR G nL x Q w (pc + 1) ls (zi (n : Int) :: st)) : fxR G nL x Q w pc ls (.ref a :: st) := r_alen C hd ht ha (z_nat n) k
theorem zr_tableIn (C : fxC G d cc nL own nm ret hh x) {dflt lo hi : Int} {offs : Array Int} {len : Nat} {a : Int} {off : Int} {tgt : Nat} (hd : decode cc pc = .ok (.tableswitch dflt lo hi offs, len)) (ha : zok a) (h1 : lo ≤ a) (h2 : a ≤ hi) (ho : offs[(a - lo).toNat]? = some off) (ht : (pc : Int) + off = (tgt : Int)) (k : fxR G nL x Q w tgt ls st) : fxR G nL x Q w pc ls (zi a :: st) := r_tableIn C hd (by rw [zok_toInt ha]; omega) (by rw [zok_toInt ha]; omega) (by rw [zok_toInt ha]; exact ho) ht k
theorem zr_tableOut (C : fxC G d cc nL own nm ret hh x) {dflt lo hi : Int} {offs : Array Int} {len : Nat} {a : Int} {tgt : Nat} (hd : decode cc pc = .ok (.tableswitch dflt lo hi offs, len)) (ha : zok a) (h1 : a < lo ∨ hi < a) (ht : (pc : Int) + dflt = (tgt : Int)) (k : fxR G nL x Q w tgt ls st) : fxR G nL x Q w pc ls (zi a :: st) := r_tableOut C hd (by rw [zok_toInt ha]; exact h1) ht k
end FXZ
end
section
theorem ini_ForkPool : Cond.initialized "ForkPool" ∈ fxTW := fxTW_in 39 (by decide +kernel) rfl
theorem ini_ForkPool_Job : Cond.initialized "ForkPool$Job" ∈ fxTW := fxTW_in 53 (by decide +kernel) rfl
theorem ini_ForkPool_Row : Cond.initialized "ForkPool$Row" ∈ fxTW := fxTW_in 40 (by decide +kernel) rfl
theorem ini_ForkPool_Task : Cond.initialized "ForkPool$Task" ∈ fxTW := fxTW_in 54 (by decide +kernel) rfl
theorem ini_ForkPool_Worker : Cond.initialized "ForkPool$Worker" ∈ fxTW := fxTW_in 42 (by decide +kernel) rfl
theorem ini_ForkPoolLaw : Cond.initialized "ForkPoolLaw" ∈ fxTW := fxTW_in 38 (by decide +kernel) rfl
theorem ini_ForkPoolModel : Cond.initialized "ForkPoolModel" ∈ fxTW := fxTW_in 46 (by decide +kernel) rfl
theorem ini_java_lang_ArithmeticException : Cond.initialized "java/lang/ArithmeticException" ∈ fxTW := fxTW_in 60 (by decide +kernel) rfl
theorem ini_java_lang_Exception : Cond.initialized "java/lang/Exception" ∈ fxTW := fxTW_in 48 (by decide +kernel) rfl
theorem ini_java_lang_IllegalArgumentException : Cond.initialized "java/lang/IllegalArgumentException" ∈ fxTW := fxTW_in 50 (by decide +kernel) rfl
theorem ini_java_lang_IllegalStateException : Cond.initialized "java/lang/IllegalStateException" ∈ fxTW := fxTW_in 51 (by decide +kernel) rfl
theorem ini_java_lang_Math : Cond.initialized "java/lang/Math" ∈ fxTW := fxTW_in 41 (by decide +kernel) rfl
theorem ini_java_lang_RuntimeException : Cond.initialized "java/lang/RuntimeException" ∈ fxTW := fxTW_in 49 (by decide +kernel) rfl
theorem ini_java_lang_System : Cond.initialized "java/lang/System" ∈ fxTW := fxTW_in 57 (by decide +kernel) rfl
theorem ini_java_lang_Throwable : Cond.initialized "java/lang/Throwable" ∈ fxTW := fxTW_in 47 (by decide +kernel) rfl
theorem ini_java_lang_UnsupportedOperationException : Cond.initialized "java/lang/UnsupportedOperationException" ∈ fxTW := fxTW_in 61 (by decide +kernel) rfl
theorem ini_java_util_AbstractCollection : Cond.initialized "java/util/AbstractCollection" ∈ fxTW := fxTW_in 43 (by decide +kernel) rfl
theorem ini_java_util_AbstractList : Cond.initialized "java/util/AbstractList" ∈ fxTW := fxTW_in 44 (by decide +kernel) rfl
theorem ini_java_util_ArrayList : Cond.initialized "java/util/ArrayList" ∈ fxTW := fxTW_in 45 (by decide +kernel) rfl
theorem ini_java_util_Arrays : Cond.initialized "java/util/Arrays" ∈ fxTW := fxTW_in 56 (by decide +kernel) rfl
theorem ini_java_util_NoSuchElementException : Cond.initialized "java/util/NoSuchElementException" ∈ fxTW := fxTW_in 52 (by decide +kernel) rfl
theorem ini_java_util_Objects : Cond.initialized "java/util/Objects" ∈ fxTW := fxTW_in 58 (by decide +kernel) rfl
theorem ini_jdk_internal_util_ArraysSupport : Cond.initialized "jdk/internal/util/ArraysSupport" ∈ fxTW := fxTW_in 55 (by decide +kernel) rfl
theorem ini_jdk_internal_util_Preconditions : Cond.initialized "jdk/internal/util/Preconditions" ∈ fxTW := fxTW_in 59 (by decide +kernel) rfl
abbrev cc_AL_add1 : ByteArray := prog_23_method_25_code
abbrev y_AL_add1 : MethodName := ⟨"java/util/ArrayList", "add", "(Ljava/lang/Object;)Z"⟩
theorem np_AL_add1 : (parseMethodDescriptor y_AL_add1.desc).map (fun q => q.parameters.length) = some 1 := by decide +kernel
theorem w_AL_add1 : fxcode y_AL_add1 cc_AL_add1 2 (some .boolean) [] ∈ fxTW := fxTW_in 440 (by decide +kernel) rfl
abbrev cc_AL_add3 : ByteArray := prog_23_method_24_code
abbrev y_AL_add3 : MethodName := ⟨"java/util/ArrayList", "add", "(Ljava/lang/Object;[Ljava/lang/Object;I)V"⟩
theorem np_AL_add3 : (parseMethodDescriptor y_AL_add3.desc).map (fun q => q.parameters.length) = some 3 := by decide +kernel
theorem w_AL_add3 : fxcode y_AL_add3 cc_AL_add3 4 none [] ∈ fxTW := fxTW_in 444 (by decide +kernel) rfl
abbrev cc_AL_elementData : ByteArray := prog_23_method_18_code
abbrev y_AL_elementData : MethodName := ⟨"java/util/ArrayList", "elementData", "(I)Ljava/lang/Object;"⟩
theorem np_AL_elementData : (parseMethodDescriptor y_AL_elementData.desc).map (fun q => q.parameters.length) = some 1 := by decide +kernel
theorem w_AL_elementData : fxcode y_AL_elementData cc_AL_elementData 2 (some (.object "java/lang/Object")) [] ∈ fxTW := fxTW_in 619 (by decide +kernel) rfl
abbrev cc_AL_fastRemove : ByteArray := prog_23_method_39_code
abbrev y_AL_fastRemove : MethodName := ⟨"java/util/ArrayList", "fastRemove", "([Ljava/lang/Object;I)V"⟩
theorem np_AL_fastRemove : (parseMethodDescriptor y_AL_fastRemove.desc).map (fun q => q.parameters.length) = some 2 := by decide +kernel
theorem w_AL_fastRemove : fxcode y_AL_fastRemove cc_AL_fastRemove 4 none [] ∈ fxTW := fxTW_in 529 (by decide +kernel) rfl
abbrev cc_AL_get : ByteArray := prog_23_method_20_code
abbrev y_AL_get : MethodName := ⟨"java/util/ArrayList", "get", "(I)Ljava/lang/Object;"⟩
theorem np_AL_get : (parseMethodDescriptor y_AL_get.desc).map (fun q => q.parameters.length) = some 1 := by decide +kernel
theorem w_AL_get : fxcode y_AL_get cc_AL_get 2 (some (.object "java/lang/Object")) [] ∈ fxTW := fxTW_in 615 (by decide +kernel) rfl
abbrev cc_AL_grow0 : ByteArray := prog_23_method_7_code
abbrev y_AL_grow0 : MethodName := ⟨"java/util/ArrayList", "grow", "()[Ljava/lang/Object;"⟩
theorem np_AL_grow0 : (parseMethodDescriptor y_AL_grow0.desc).map (fun q => q.parameters.length) = some 0 := by decide +kernel
theorem w_AL_grow0 : fxcode y_AL_grow0 cc_AL_grow0 1 (some (.array (.object "java/lang/Object"))) [] ∈ fxTW := fxTW_in 448 (by decide +kernel) rfl
abbrev cc_AL_grow1 : ByteArray := prog_23_method_6_code
abbrev y_AL_grow1 : MethodName := ⟨"java/util/ArrayList", "grow", "(I)[Ljava/lang/Object;"⟩
theorem np_AL_grow1 : (parseMethodDescriptor y_AL_grow1.desc).map (fun q => q.parameters.length) = some 1 := by decide +kernel
theorem w_AL_grow1 : fxcode y_AL_grow1 cc_AL_grow1 4 (some (.array (.object "java/lang/Object"))) [] ∈ fxTW := fxTW_in 452 (by decide +kernel) rfl
abbrev cc_AL_init : ByteArray := prog_23_method_2_code
abbrev y_AL_init : MethodName := ⟨"java/util/ArrayList", "<init>", "()V"⟩
theorem np_AL_init : (parseMethodDescriptor y_AL_init.desc).map (fun q => q.parameters.length) = some 0 := by decide +kernel
theorem w_AL_init : fxcode y_AL_init cc_AL_init 1 none [] ∈ fxTW := fxTW_in 107 (by decide +kernel) rfl
abbrev cc_AL_remove : ByteArray := prog_23_method_29_code
abbrev y_AL_remove : MethodName := ⟨"java/util/ArrayList", "remove", "(I)Ljava/lang/Object;"⟩
theorem np_AL_remove : (parseMethodDescriptor y_AL_remove.desc).map (fun q => q.parameters.length) = some 1 := by decide +kernel
theorem w_AL_remove : fxcode y_AL_remove cc_AL_remove 4 (some (.object "java/lang/Object")) [] ∈ fxTW := fxTW_in 519 (by decide +kernel) rfl
abbrev cc_AL_size : ByteArray := prog_23_method_8_code
abbrev y_AL_size : MethodName := ⟨"java/util/ArrayList", "size", "()I"⟩
theorem np_AL_size : (parseMethodDescriptor y_AL_size.desc).map (fun q => q.parameters.length) = some 0 := by decide +kernel
theorem w_AL_size : fxcode y_AL_size cc_AL_size 1 (some .int) [] ∈ fxTW := fxTW_in 511 (by decide +kernel) rfl
abbrev cc_AbC_init : ByteArray := prog_21_method_1_code
abbrev y_AbC_init : MethodName := ⟨"java/util/AbstractCollection", "<init>", "()V"⟩
theorem np_AbC_init : (parseMethodDescriptor y_AbC_init.desc).map (fun q => q.parameters.length) = some 0 := by decide +kernel
theorem w_AbC_init : fxcode y_AbC_init cc_AbC_init 1 none [] ∈ fxTW := fxTW_in 113 (by decide +kernel) rfl
abbrev cc_AbL_init : ByteArray := prog_22_method_1_code
abbrev y_AbL_init : MethodName := ⟨"java/util/AbstractList", "<init>", "()V"⟩
theorem np_AbL_init : (parseMethodDescriptor y_AbL_init.desc).map (fun q => q.parameters.length) = some 0 := by decide +kernel
theorem w_AbL_init : fxcode y_AbL_init cc_AbL_init 1 none [] ∈ fxTW := fxTW_in 110 (by decide +kernel) rfl
abbrev cc_Ar_copyOf2 : ByteArray := prog_24_method_119_code
abbrev y_Ar_copyOf2 : MethodName := ⟨"java/util/Arrays", "copyOf", "([Ljava/lang/Object;I)[Ljava/lang/Object;"⟩
theorem np_Ar_copyOf2 : (parseMethodDescriptor y_Ar_copyOf2.desc).map (fun q => q.parameters.length) = some 2 := by decide +kernel
theorem w_Ar_copyOf2 : fxcode y_Ar_copyOf2 cc_Ar_copyOf2 2 (some (.array (.object "java/lang/Object"))) [] ∈ fxTW := fxTW_in 463 (by decide +kernel) rfl
abbrev cc_Ar_copyOf3 : ByteArray := prog_24_method_120_code
abbrev y_Ar_copyOf3 : MethodName := ⟨"java/util/Arrays", "copyOf", "([Ljava/lang/Object;ILjava/lang/Class;)[Ljava/lang/Object;"⟩
theorem np_Ar_copyOf3 : (parseMethodDescriptor y_Ar_copyOf3.desc).map (fun q => q.parameters.length) = some 3 := by decide +kernel
theorem w_Ar_copyOf3 : fxcode y_Ar_copyOf3 cc_Ar_copyOf3 4 (some (.array (.object "java/lang/Object"))) [] ∈ fxTW := fxTW_in 482 (by decide +kernel) rfl
abbrev cc_As_hugeLength : ByteArray := prog_31_method_28_code
abbrev y_As_hugeLength : MethodName := ⟨"jdk/internal/util/ArraysSupport", "hugeLength", "(II)I"⟩
theorem np_As_hugeLength : (parseMethodDescriptor y_As_hugeLength.desc).map (fun q => q.parameters.length) = some 2 := by decide +kernel
theorem w_As_hugeLength : fxcode y_As_hugeLength cc_As_hugeLength 3 (some .int) [] ∈ fxTW := fxTW_in 460 (by decide +kernel) rfl
abbrev cc_As_newLength : ByteArray := prog_31_method_27_code
abbrev y_As_newLength : MethodName := ⟨"jdk/internal/util/ArraysSupport", "newLength", "(III)I"⟩
theorem np_As_newLength : (parseMethodDescriptor y_As_newLength.desc).map (fun q => q.parameters.length) = some 3 := by decide +kernel
theorem w_As_newLength : fxcode y_As_newLength cc_As_newLength 4 (some .int) [] ∈ fxTW := fxTW_in 455 (by decide +kernel) rfl
abbrev cc_FP_array : ByteArray := prog_1_method_2_code
abbrev y_FP_array : MethodName := ⟨"ForkPool", "array", "(III)I"⟩
theorem np_FP_array : (parseMethodDescriptor y_FP_array.desc).map (fun q => q.parameters.length) = some 3 := by decide +kernel
theorem w_FP_array : fxcode y_FP_array cc_FP_array 4 (some .int) [] ∈ fxTW := fxTW_in 181 (by decide +kernel) rfl
abbrev cc_FP_begin : ByteArray := prog_1_method_5_code
abbrev y_FP_begin : MethodName := ⟨"ForkPool", "begin", "(IIIII)I"⟩
theorem np_FP_begin : (parseMethodDescriptor y_FP_begin.desc).map (fun q => q.parameters.length) = some 5 := by decide +kernel
theorem w_FP_begin : fxcode y_FP_begin cc_FP_begin 8 (some .int) [] ∈ fxTW := fxTW_in 337 (by decide +kernel) rfl
abbrev cc_FP_begunJob : ByteArray := prog_1_method_19_code
abbrev y_FP_begunJob : MethodName := ⟨"ForkPool", "begunJob", "(I)LForkPool$Job;"⟩
theorem np_FP_begunJob : (parseMethodDescriptor y_FP_begunJob.desc).map (fun q => q.parameters.length) = some 1 := by decide +kernel
theorem w_FP_begunJob : fxcode y_FP_begunJob cc_FP_begunJob 2 (some (.object "ForkPool$Job")) [] ∈ fxTW := fxTW_in 639 (by decide +kernel) rfl
abbrev cc_FP_cancel : ByteArray := prog_1_method_9_code
abbrev y_FP_cancel : MethodName := ⟨"ForkPool", "cancel", "(I)I"⟩
theorem np_FP_cancel : (parseMethodDescriptor y_FP_cancel.desc).map (fun q => q.parameters.length) = some 1 := by decide +kernel
theorem w_FP_cancel : fxcode y_FP_cancel cc_FP_cancel 4 (some .int) [] ∈ fxTW := fxTW_in 689 (by decide +kernel) rfl
abbrev cc_FP_count : ByteArray := prog_1_method_14_code
abbrev y_FP_count : MethodName := ⟨"ForkPool", "count", "(I)I"⟩
theorem np_FP_count : (parseMethodDescriptor y_FP_count.desc).map (fun q => q.parameters.length) = some 1 := by decide +kernel
theorem w_FP_count : fxcode y_FP_count cc_FP_count 2 (some .int) [] ∈ fxTW := fxTW_in 747 (by decide +kernel) rfl
abbrev cc_FP_endRound : ByteArray := prog_1_method_26_code
abbrev y_FP_endRound : MethodName := ⟨"ForkPool", "endRound", "(LForkPool$Task;LForkPool$Worker;)V"⟩
theorem np_FP_endRound : (parseMethodDescriptor y_FP_endRound.desc).map (fun q => q.parameters.length) = some 2 := by decide +kernel
theorem w_FP_endRound : fxcode y_FP_endRound cc_FP_endRound 4 none [] ∈ fxTW := fxTW_in 603 (by decide +kernel) rfl
abbrev cc_FP_endTask : ByteArray := prog_1_method_25_code
abbrev y_FP_endTask : MethodName := ⟨"ForkPool", "endTask", "(LForkPool$Task;LForkPool$Worker;)V"⟩
theorem np_FP_endTask : (parseMethodDescriptor y_FP_endTask.desc).map (fun q => q.parameters.length) = some 2 := by decide +kernel
theorem w_FP_endTask : fxcode y_FP_endTask cc_FP_endTask 4 none [] ∈ fxTW := fxTW_in 592 (by decide +kernel) rfl
abbrev cc_FP_fail : ByteArray := prog_1_method_27_code
abbrev y_FP_fail : MethodName := ⟨"ForkPool", "fail", "(LForkPool$Job;I)V"⟩
theorem np_FP_fail : (parseMethodDescriptor y_FP_fail.desc).map (fun q => q.parameters.length) = some 2 := by decide +kernel
theorem w_FP_fail : fxcode y_FP_fail cc_FP_fail 4 none [] ∈ fxTW := fxTW_in 607 (by decide +kernel) rfl
abbrev cc_FP_findVictim : ByteArray := prog_1_method_22_code
abbrev y_FP_findVictim : MethodName := ⟨"ForkPool", "findVictim", "(LForkPool$Worker;)LForkPool$Worker;"⟩
theorem np_FP_findVictim : (parseMethodDescriptor y_FP_findVictim.desc).map (fun q => q.parameters.length) = some 1 := by decide +kernel
theorem w_FP_findVictim : fxcode y_FP_findVictim cc_FP_findVictim 4 (some (.object "ForkPool$Worker")) [] ∈ fxTW := fxTW_in 623 (by decide +kernel) rfl
abbrev cc_FP_get : ByteArray := prog_1_method_4_code
abbrev y_FP_get : MethodName := ⟨"ForkPool", "get", "(II)J"⟩
theorem np_FP_get : (parseMethodDescriptor y_FP_get.desc).map (fun q => q.parameters.length) = some 2 := by decide +kernel
theorem w_FP_get : fxcode y_FP_get cc_FP_get 3 (some .long) [] ∈ fxTW := fxTW_in 330 (by decide +kernel) rfl
abbrev cc_FP_grain : ByteArray := prog_1_method_13_code
abbrev y_FP_grain : MethodName := ⟨"ForkPool", "grain", "(I)I"⟩
theorem np_FP_grain : (parseMethodDescriptor y_FP_grain.desc).map (fun q => q.parameters.length) = some 1 := by decide +kernel
theorem w_FP_grain : fxcode y_FP_grain cc_FP_grain 3 (some .int) [] ∈ fxTW := fxTW_in 739 (by decide +kernel) rfl
abbrev cc_FP_init : ByteArray := prog_1_method_1_code
abbrev y_FP_init : MethodName := ⟨"ForkPool", "<init>", "(I)V"⟩
theorem np_FP_init : (parseMethodDescriptor y_FP_init.desc).map (fun q => q.parameters.length) = some 1 := by decide +kernel
theorem w_FP_init : fxcode y_FP_init cc_FP_init 3 none [] ∈ fxTW := fxTW_in 66 (by decide +kernel) rfl
abbrev cc_FP_isWithin : ByteArray := prog_1_method_15_code
abbrev y_FP_isWithin : MethodName := ⟨"ForkPool", "isWithin", "(III)Z"⟩
theorem np_FP_isWithin : (parseMethodDescriptor y_FP_isWithin.desc).map (fun q => q.parameters.length) = some 3 := by decide +kernel
theorem w_FP_isWithin : fxcode y_FP_isWithin cc_FP_isWithin 3 (some .boolean) [] ∈ fxTW := fxTW_in 184 (by decide +kernel) rfl
abbrev cc_FP_job : ByteArray := prog_1_method_10_code
abbrev y_FP_job : MethodName := ⟨"ForkPool", "job", "(II)I"⟩
theorem np_FP_job : (parseMethodDescriptor y_FP_job.desc).map (fun q => q.parameters.length) = some 2 := by decide +kernel
theorem w_FP_job : fxcode y_FP_job cc_FP_job 4 (some .int) [] ∈ fxTW := fxTW_in 705 (by decide +kernel) rfl
abbrev cc_FP_join : ByteArray := prog_1_method_7_code
abbrev y_FP_join : MethodName := ⟨"ForkPool", "join", "(I)I"⟩
theorem np_FP_join : (parseMethodDescriptor y_FP_join.desc).map (fun q => q.parameters.length) = some 1 := by decide +kernel
theorem w_FP_join : fxcode y_FP_join cc_FP_join 4 (some .int) [] ∈ fxTW := fxTW_in 635 (by decide +kernel) rfl
abbrev cc_FP_madeRow : ByteArray := prog_1_method_16_code
abbrev y_FP_madeRow : MethodName := ⟨"ForkPool", "madeRow", "(I)LForkPool$Row;"⟩
theorem np_FP_madeRow : (parseMethodDescriptor y_FP_madeRow.desc).map (fun q => q.parameters.length) = some 1 := by decide +kernel
theorem w_FP_madeRow : fxcode y_FP_madeRow cc_FP_madeRow 2 (some (.object "ForkPool$Row")) [] ∈ fxTW := fxTW_in 294 (by decide +kernel) rfl
abbrev cc_FP_makeStep : ByteArray := prog_1_method_21_code
abbrev y_FP_makeStep : MethodName := ⟨"ForkPool", "makeStep", "()Z"⟩
theorem np_FP_makeStep : (parseMethodDescriptor y_FP_makeStep.desc).map (fun q => q.parameters.length) = some 0 := by decide +kernel
theorem w_FP_makeStep : fxcode y_FP_makeStep cc_FP_makeStep 3 (some .boolean) [] ∈ fxTW := fxTW_in 503 (by decide +kernel) rfl
abbrev cc_FP_mustFork : ByteArray := prog_1_method_24_code
abbrev y_FP_mustFork : MethodName := ⟨"ForkPool", "mustFork", "(LForkPool$Task;)Z"⟩
theorem np_FP_mustFork : (parseMethodDescriptor y_FP_mustFork.desc).map (fun q => q.parameters.length) = some 1 := by decide +kernel
theorem w_FP_mustFork : fxcode y_FP_mustFork cc_FP_mustFork 2 (some .boolean) [] ∈ fxTW := fxTW_in 539 (by decide +kernel) rfl
abbrev cc_FP_perform : ByteArray := prog_1_method_23_code
abbrev y_FP_perform : MethodName := ⟨"ForkPool", "perform", "(LForkPool$Task;LForkPool$Worker;)V"⟩
theorem np_FP_perform : (parseMethodDescriptor y_FP_perform.desc).map (fun q => q.parameters.length) = some 2 := by decide +kernel
theorem w_FP_perform : fxcode y_FP_perform cc_FP_perform 4 none [] ∈ fxTW := fxTW_in 535 (by decide +kernel) rfl
abbrev cc_FP_queuedTasks : ByteArray := prog_1_method_28_code
abbrev y_FP_queuedTasks : MethodName := ⟨"ForkPool", "queuedTasks", "(LForkPool$Job;)I"⟩
theorem np_FP_queuedTasks : (parseMethodDescriptor y_FP_queuedTasks.desc).map (fun q => q.parameters.length) = some 1 := by decide +kernel
theorem w_FP_queuedTasks : fxcode y_FP_queuedTasks cc_FP_queuedTasks 4 (some .int) [] ∈ fxTW := fxTW_in 694 (by decide +kernel) rfl
abbrev cc_FP_refuseIfBusy : ByteArray := prog_1_method_18_code
abbrev y_FP_refuseIfBusy : MethodName := ⟨"ForkPool", "refuseIfBusy", "(LForkPool$Row;)V"⟩
theorem np_FP_refuseIfBusy : (parseMethodDescriptor y_FP_refuseIfBusy.desc).map (fun q => q.parameters.length) = some 1 := by decide +kernel
theorem w_FP_refuseIfBusy : fxcode y_FP_refuseIfBusy cc_FP_refuseIfBusy 3 none [] ∈ fxTW := fxTW_in 258 (by decide +kernel) rfl
abbrev cc_FP_result : ByteArray := prog_1_method_8_code
abbrev y_FP_result : MethodName := ⟨"ForkPool", "result", "(I)J"⟩
theorem np_FP_result : (parseMethodDescriptor y_FP_result.desc).map (fun q => q.parameters.length) = some 1 := by decide +kernel
theorem w_FP_result : fxcode y_FP_result cc_FP_result 3 (some .long) [] ∈ fxTW := fxTW_in 665 (by decide +kernel) rfl
abbrev cc_FP_rowWith : ByteArray := prog_1_method_17_code
abbrev y_FP_rowWith : MethodName := ⟨"ForkPool", "rowWith", "(II)LForkPool$Row;"⟩
theorem np_FP_rowWith : (parseMethodDescriptor y_FP_rowWith.desc).map (fun q => q.parameters.length) = some 2 := by decide +kernel
theorem w_FP_rowWith : fxcode y_FP_rowWith cc_FP_rowWith 4 (some (.object "ForkPool$Row")) [] ∈ fxTW := fxTW_in 290 (by decide +kernel) rfl
abbrev cc_FP_set : ByteArray := prog_1_method_3_code
abbrev y_FP_set : MethodName := ⟨"ForkPool", "set", "(IIJ)J"⟩
theorem np_FP_set : (parseMethodDescriptor y_FP_set.desc).map (fun q => q.parameters.length) = some 3 := by decide +kernel
theorem w_FP_set : fxcode y_FP_set cc_FP_set 6 (some .long) [] ∈ fxTW := fxTW_in 286 (by decide +kernel) rfl
abbrev cc_FP_step : ByteArray := prog_1_method_6_code
abbrev y_FP_step : MethodName := ⟨"ForkPool", "step", "(I)I"⟩
theorem np_FP_step : (parseMethodDescriptor y_FP_step.desc).map (fun q => q.parameters.length) = some 1 := by decide +kernel
theorem w_FP_step : fxcode y_FP_step cc_FP_step 4 (some .int) [] ∈ fxTW := fxTW_in 498 (by decide +kernel) rfl
abbrev cc_FP_task : ByteArray := prog_1_method_11_code
abbrev y_FP_task : MethodName := ⟨"ForkPool", "task", "(III)I"⟩
theorem np_FP_task : (parseMethodDescriptor y_FP_task.desc).map (fun q => q.parameters.length) = some 3 := by decide +kernel
theorem w_FP_task : fxcode y_FP_task cc_FP_task 6 (some .int) [] ∈ fxTW := fxTW_in 713 (by decide +kernel) rfl
abbrev cc_FP_worker : ByteArray := prog_1_method_12_code
abbrev y_FP_worker : MethodName := ⟨"ForkPool", "worker", "(II)I"⟩
theorem np_FP_worker : (parseMethodDescriptor y_FP_worker.desc).map (fun q => q.parameters.length) = some 2 := by decide +kernel
theorem w_FP_worker : fxcode y_FP_worker cc_FP_worker 4 (some .int) [] ∈ fxTW := fxTW_in 731 (by decide +kernel) rfl
abbrev cc_FP_workerAt : ByteArray := prog_1_method_20_code
abbrev y_FP_workerAt : MethodName := ⟨"ForkPool", "workerAt", "(I)LForkPool$Worker;"⟩
theorem np_FP_workerAt : (parseMethodDescriptor y_FP_workerAt.desc).map (fun q => q.parameters.length) = some 1 := by decide +kernel
theorem w_FP_workerAt : fxcode y_FP_workerAt cc_FP_workerAt 2 (some (.object "ForkPool$Worker")) [] ∈ fxTW := fxTW_in 717 (by decide +kernel) rfl
abbrev cc_Job_doLeaf : ByteArray := prog_2_method_2_code
abbrev y_Job_doLeaf : MethodName := ⟨"ForkPool$Job", "doLeaf", "(LForkPool$Task;)I"⟩
theorem np_Job_doLeaf : (parseMethodDescriptor y_Job_doLeaf.desc).map (fun q => q.parameters.length) = some 1 := by decide +kernel
theorem w_Job_doLeaf : fxcode y_Job_doLeaf cc_Job_doLeaf 2 (some .int) [] ∈ fxTW := fxTW_in 555 (by decide +kernel) rfl
abbrev cc_Job_init : ByteArray := prog_2_method_1_code
abbrev y_Job_init : MethodName := ⟨"ForkPool$Job", "<init>", "(IILForkPool$Row;II)V"⟩
theorem np_Job_init : (parseMethodDescriptor y_Job_init.desc).map (fun q => q.parameters.length) = some 5 := by decide +kernel
theorem w_Job_init : fxcode y_Job_init cc_Job_init 6 none [] ∈ fxTW := fxTW_in 344 (by decide +kernel) rfl
abbrev cc_Job_joinParts : ByteArray := prog_2_method_3_code
abbrev y_Job_joinParts : MethodName := ⟨"ForkPool$Job", "joinParts", "(LForkPool$Task;)V"⟩
theorem np_Job_joinParts : (parseMethodDescriptor y_Job_joinParts.desc).map (fun q => q.parameters.length) = some 1 := by decide +kernel
theorem w_Job_joinParts : fxcode y_Job_joinParts cc_Job_joinParts 6 none [] ∈ fxTW := fxTW_in 596 (by decide +kernel) rfl
abbrev cc_Lw_array : ByteArray := method_3_code
abbrev y_Lw_array : MethodName := ⟨"ForkPoolLaw", "array", "(LForkPool;III[J)I"⟩
theorem np_Lw_array : (parseMethodDescriptor y_Lw_array.desc).map (fun q => q.parameters.length) = some 5 := by decide +kernel
theorem w_Lw_array : fxcode y_Lw_array cc_Lw_array 6 (some .int) [(0, 12, 15, 13), (0, 12, 19, 15)] ∈ fxTW := fxTW_in 175 (by decide +kernel) rfl
abbrev cc_Lw_begin : ByteArray := method_6_code
abbrev y_Lw_begin : MethodName := ⟨"ForkPoolLaw", "begin", "(LForkPool;IIIII[J)I"⟩
theorem np_Lw_begin : (parseMethodDescriptor y_Lw_begin.desc).map (fun q => q.parameters.length) = some 7 := by decide +kernel
theorem w_Lw_begin : fxcode y_Lw_begin cc_Lw_begin 8 (some .int) [(0, 16, 19, 21), (0, 16, 23, 13), (0, 16, 27, 15)] ∈ fxTW := fxTW_in 333 (by decide +kernel) rfl
abbrev cc_Lw_cancel : ByteArray := method_10_code
abbrev y_Lw_cancel : MethodName := ⟨"ForkPoolLaw", "cancel", "(LForkPool;I[J)I"⟩
theorem np_Lw_cancel : (parseMethodDescriptor y_Lw_cancel.desc).map (fun q => q.parameters.length) = some 3 := by decide +kernel
theorem w_Lw_cancel : fxcode y_Lw_cancel cc_Lw_cancel 4 (some .int) [(0, 9, 12, 21), (0, 9, 15, 15)] ∈ fxTW := fxTW_in 685 (by decide +kernel) rfl
abbrev cc_Lw_cell : ByteArray := method_2_code
abbrev y_Lw_cell : MethodName := ⟨"ForkPoolLaw", "cell", "([II)I"⟩
theorem np_Lw_cell : (parseMethodDescriptor y_Lw_cell.desc).map (fun q => q.parameters.length) = some 2 := by decide +kernel
theorem w_Lw_cell : fxcode y_Lw_cell cc_Lw_cell 2 (some .int) [] ∈ fxTW := fxTW_in 172 (by decide +kernel) rfl
abbrev cc_Lw_count : ByteArray := method_15_code
abbrev y_Lw_count : MethodName := ⟨"ForkPoolLaw", "count", "(LForkPool;I[J)I"⟩
theorem np_Lw_count : (parseMethodDescriptor y_Lw_count.desc).map (fun q => q.parameters.length) = some 3 := by decide +kernel
theorem w_Lw_count : fxcode y_Lw_count cc_Lw_count 4 (some .int) [(0, 9, 12, 13)] ∈ fxTW := fxTW_in 743 (by decide +kernel) rfl
abbrev cc_Lw_get : ByteArray := method_5_code
abbrev y_Lw_get : MethodName := ⟨"ForkPoolLaw", "get", "(LForkPool;II[J)I"⟩
theorem np_Lw_get : (parseMethodDescriptor y_Lw_get.desc).map (fun q => q.parameters.length) = some 4 := by decide +kernel
theorem w_Lw_get : fxcode y_Lw_get cc_Lw_get 5 (some .int) [(0, 9, 12, 21)] ∈ fxTW := fxTW_in 326 (by decide +kernel) rfl
abbrev cc_Lw_grain : ByteArray := method_14_code
abbrev y_Lw_grain : MethodName := ⟨"ForkPoolLaw", "grain", "(LForkPool;I[J)I"⟩
theorem np_Lw_grain : (parseMethodDescriptor y_Lw_grain.desc).map (fun q => q.parameters.length) = some 3 := by decide +kernel
theorem w_Lw_grain : fxcode y_Lw_grain cc_Lw_grain 4 (some .int) [(0, 9, 12, 13)] ∈ fxTW := fxTW_in 735 (by decide +kernel) rfl
abbrev cc_Lw_job : ByteArray := method_11_code
abbrev y_Lw_job : MethodName := ⟨"ForkPoolLaw", "job", "(LForkPool;II[J)I"⟩
theorem np_Lw_job : (parseMethodDescriptor y_Lw_job.desc).map (fun q => q.parameters.length) = some 4 := by decide +kernel
theorem w_Lw_job : fxcode y_Lw_job cc_Lw_job 5 (some .int) [(0, 10, 13, 21), (0, 10, 17, 13)] ∈ fxTW := fxTW_in 701 (by decide +kernel) rfl
abbrev cc_Lw_join : ByteArray := method_8_code
abbrev y_Lw_join : MethodName := ⟨"ForkPoolLaw", "join", "(LForkPool;I[J)I"⟩
theorem np_Lw_join : (parseMethodDescriptor y_Lw_join.desc).map (fun q => q.parameters.length) = some 3 := by decide +kernel
theorem w_Lw_join : fxcode y_Lw_join cc_Lw_join 4 (some .int) [(0, 9, 12, 21), (0, 9, 15, 38)] ∈ fxTW := fxTW_in 630 (by decide +kernel) rfl
abbrev cc_Lw_law : ByteArray := code
abbrev y_Lw_law : MethodName := ⟨"ForkPoolLaw", "law", "([I)Z"⟩
abbrev cc_Lw_result : ByteArray := method_9_code
abbrev y_Lw_result : MethodName := ⟨"ForkPoolLaw", "result", "(LForkPool;I[J)I"⟩
theorem np_Lw_result : (parseMethodDescriptor y_Lw_result.desc).map (fun q => q.parameters.length) = some 3 := by decide +kernel
theorem w_Lw_result : fxcode y_Lw_result cc_Lw_result 4 (some .int) [(0, 8, 11, 21), (0, 8, 14, 44), (0, 8, 17, 15)] ∈ fxTW := fxTW_in 660 (by decide +kernel) rfl
abbrev cc_Lw_set : ByteArray := method_4_code
abbrev y_Lw_set : MethodName := ⟨"ForkPoolLaw", "set", "(LForkPool;IIJ[J)I"⟩
theorem np_Lw_set : (parseMethodDescriptor y_Lw_set.desc).map (fun q => q.parameters.length) = some 5 := by decide +kernel
theorem w_Lw_set : fxcode y_Lw_set cc_Lw_set 7 (some .int) [(0, 11, 14, 21), (0, 11, 18, 15)] ∈ fxTW := fxTW_in 281 (by decide +kernel) rfl
abbrev cc_Lw_step : ByteArray := method_7_code
abbrev y_Lw_step : MethodName := ⟨"ForkPoolLaw", "step", "(LForkPool;I[J)I"⟩
theorem np_Lw_step : (parseMethodDescriptor y_Lw_step.desc).map (fun q => q.parameters.length) = some 3 := by decide +kernel
theorem w_Lw_step : fxcode y_Lw_step cc_Lw_step 4 (some .int) [(0, 9, 12, 13)] ∈ fxTW := fxTW_in 494 (by decide +kernel) rfl
abbrev cc_Lw_task : ByteArray := method_12_code
abbrev y_Lw_task : MethodName := ⟨"ForkPoolLaw", "task", "(LForkPool;III[J)I"⟩
theorem np_Lw_task : (parseMethodDescriptor y_Lw_task.desc).map (fun q => q.parameters.length) = some 5 := by decide +kernel
theorem w_Lw_task : fxcode y_Lw_task cc_Lw_task 6 (some .int) [(0, 12, 15, 21), (0, 12, 19, 13)] ∈ fxTW := fxTW_in 709 (by decide +kernel) rfl
abbrev cc_Lw_worker : ByteArray := method_13_code
abbrev y_Lw_worker : MethodName := ⟨"ForkPoolLaw", "worker", "(LForkPool;II[J)I"⟩
theorem np_Lw_worker : (parseMethodDescriptor y_Lw_worker.desc).map (fun q => q.parameters.length) = some 4 := by decide +kernel
theorem w_Lw_worker : fxcode y_Lw_worker cc_Lw_worker 5 (some .int) [(0, 10, 13, 21), (0, 10, 17, 13)] ∈ fxTW := fxTW_in 727 (by decide +kernel) rfl
abbrev cc_Ma_floorDiv : ByteArray := prog_15_method_49_code
abbrev y_Ma_floorDiv : MethodName := ⟨"java/lang/Math", "floorDiv", "(JJ)J"⟩
theorem np_Ma_floorDiv : (parseMethodDescriptor y_Ma_floorDiv.desc).map (fun q => q.parameters.length) = some 2 := by decide +kernel
theorem w_Ma_floorDiv : fxcode y_Ma_floorDiv cc_Ma_floorDiv 6 (some .long) [] ∈ fxTW := fxTW_in 588 (by decide +kernel) rfl
abbrev cc_Ma_maxI : ByteArray := prog_15_method_65_code
abbrev y_Ma_maxI : MethodName := ⟨"java/lang/Math", "max", "(II)I"⟩
theorem np_Ma_maxI : (parseMethodDescriptor y_Ma_maxI.desc).map (fun q => q.parameters.length) = some 2 := by decide +kernel
theorem w_Ma_maxI : fxcode y_Ma_maxI cc_Ma_maxI 2 (some .int) [] ∈ fxTW := fxTW_in 95 (by decide +kernel) rfl
abbrev cc_Ma_maxL : ByteArray := prog_15_method_66_code
abbrev y_Ma_maxL : MethodName := ⟨"java/lang/Math", "max", "(JJ)J"⟩
theorem np_Ma_maxL : (parseMethodDescriptor y_Ma_maxL.desc).map (fun q => q.parameters.length) = some 2 := by decide +kernel
theorem w_Ma_maxL : fxcode y_Ma_maxL cc_Ma_maxL 4 (some .long) [] ∈ fxTW := fxTW_in 323 (by decide +kernel) rfl
abbrev cc_Ma_minI : ByteArray := prog_15_method_69_code
abbrev y_Ma_minI : MethodName := ⟨"java/lang/Math", "min", "(II)I"⟩
theorem np_Ma_minI : (parseMethodDescriptor y_Ma_minI.desc).map (fun q => q.parameters.length) = some 2 := by decide +kernel
theorem w_Ma_minI : fxcode y_Ma_minI cc_Ma_minI 2 (some .int) [] ∈ fxTW := fxTW_in 92 (by decide +kernel) rfl
abbrev cc_Ma_minL : ByteArray := prog_15_method_70_code
abbrev y_Ma_minL : MethodName := ⟨"java/lang/Math", "min", "(JJ)J"⟩
theorem np_Ma_minL : (parseMethodDescriptor y_Ma_minL.desc).map (fun q => q.parameters.length) = some 2 := by decide +kernel
theorem w_Ma_minL : fxcode y_Ma_minL cc_Ma_minL 4 (some .long) [] ∈ fxTW := fxTW_in 320 (by decide +kernel) rfl
abbrev cc_Mo_array : ByteArray := prog_7_method_7_code
abbrev y_Mo_array : MethodName := ⟨"ForkPoolModel", "array", "(III)I"⟩
theorem np_Mo_array : (parseMethodDescriptor y_Mo_array.desc).map (fun q => q.parameters.length) = some 3 := by decide +kernel
theorem w_Mo_array : fxcode y_Mo_array cc_Mo_array 5 (some .int) [] ∈ fxTW := fxTW_in 863 (by decide +kernel) rfl
abbrev cc_Mo_begin : ByteArray := prog_7_method_16_code
abbrev y_Mo_begin : MethodName := ⟨"ForkPoolModel", "begin", "(IIIII)I"⟩
theorem np_Mo_begin : (parseMethodDescriptor y_Mo_begin.desc).map (fun q => q.parameters.length) = some 5 := by decide +kernel
theorem w_Mo_begin : fxcode y_Mo_begin cc_Mo_begin 7 (some .int) [] ∈ fxTW := fxTW_in 895 (by decide +kernel) rfl
abbrev cc_Mo_busy : ByteArray := prog_7_method_6_code
abbrev y_Mo_busy : MethodName := ⟨"ForkPoolModel", "busy", "(I)Z"⟩
theorem np_Mo_busy : (parseMethodDescriptor y_Mo_busy.desc).map (fun q => q.parameters.length) = some 1 := by decide +kernel
theorem w_Mo_busy : fxcode y_Mo_busy cc_Mo_busy 3 (some .boolean) [] ∈ fxTW := fxTW_in 874 (by decide +kernel) rfl
abbrev cc_Mo_cancel : ByteArray := prog_7_method_33_code
abbrev y_Mo_cancel : MethodName := ⟨"ForkPoolModel", "cancel", "(I)I"⟩
theorem np_Mo_cancel : (parseMethodDescriptor y_Mo_cancel.desc).map (fun q => q.parameters.length) = some 1 := by decide +kernel
theorem w_Mo_cancel : fxcode y_Mo_cancel cc_Mo_cancel 3 (some .int) [] ∈ fxTW := fxTW_in 980 (by decide +kernel) rfl
abbrev cc_Mo_count : ByteArray := prog_7_method_38_code
abbrev y_Mo_count : MethodName := ⟨"ForkPoolModel", "count", "(I)I"⟩
theorem np_Mo_count : (parseMethodDescriptor y_Mo_count.desc).map (fun q => q.parameters.length) = some 1 := by decide +kernel
theorem w_Mo_count : fxcode y_Mo_count cc_Mo_count 2 (some .int) [] ∈ fxTW := fxTW_in 1004 (by decide +kernel) rfl
abbrev cc_Mo_down : ByteArray := prog_7_method_17_code
abbrev y_Mo_down : MethodName := ⟨"ForkPoolModel", "down", "(JJ)J"⟩
theorem np_Mo_down : (parseMethodDescriptor y_Mo_down.desc).map (fun q => q.parameters.length) = some 2 := by decide +kernel
theorem w_Mo_down : fxcode y_Mo_down cc_Mo_down 4 (some .long) [] ∈ fxTW := fxTW_in 960 (by decide +kernel) rfl
abbrev cc_Mo_end : ByteArray := prog_7_method_14_code
abbrev y_Mo_end : MethodName := ⟨"ForkPoolModel", "end", "(II)V"⟩
theorem np_Mo_end : (parseMethodDescriptor y_Mo_end.desc).map (fun q => q.parameters.length) = some 2 := by decide +kernel
theorem w_Mo_end : fxcode y_Mo_end cc_Mo_end 5 none [] ∈ fxTW := fxTW_in 947 (by decide +kernel) rfl
abbrev cc_Mo_finished : ByteArray := prog_7_method_25_code
abbrev y_Mo_finished : MethodName := ⟨"ForkPoolModel", "finished", "(II)V"⟩
theorem np_Mo_finished : (parseMethodDescriptor y_Mo_finished.desc).map (fun q => q.parameters.length) = some 2 := by decide +kernel
theorem w_Mo_finished : fxcode y_Mo_finished cc_Mo_finished 5 none [] ∈ fxTW := fxTW_in 964 (by decide +kernel) rfl
abbrev cc_Mo_fork : ByteArray := prog_7_method_26_code
abbrev y_Mo_fork : MethodName := ⟨"ForkPoolModel", "fork", "(II)V"⟩
theorem np_Mo_fork : (parseMethodDescriptor y_Mo_fork.desc).map (fun q => q.parameters.length) = some 2 := by decide +kernel
theorem w_Mo_fork : fxcode y_Mo_fork cc_Mo_fork 5 none [] ∈ fxTW := fxTW_in 923 (by decide +kernel) rfl
abbrev cc_Mo_get : ByteArray := prog_7_method_10_code
abbrev y_Mo_get : MethodName := ⟨"ForkPoolModel", "get", "(II)J"⟩
theorem np_Mo_get : (parseMethodDescriptor y_Mo_get.desc).map (fun q => q.parameters.length) = some 2 := by decide +kernel
theorem w_Mo_get : fxcode y_Mo_get cc_Mo_get 3 (some .long) [] ∈ fxTW := fxTW_in 891 (by decide +kernel) rfl
abbrev cc_Mo_grain : ByteArray := prog_7_method_37_code
abbrev y_Mo_grain : MethodName := ⟨"ForkPoolModel", "grain", "(I)I"⟩
theorem np_Mo_grain : (parseMethodDescriptor y_Mo_grain.desc).map (fun q => q.parameters.length) = some 1 := by decide +kernel
theorem w_Mo_grain : fxcode y_Mo_grain cc_Mo_grain 3 (some .int) [] ∈ fxTW := fxTW_in 1000 (by decide +kernel) rfl
abbrev cc_Mo_in : ByteArray := prog_7_method_4_code
abbrev y_Mo_in : MethodName := ⟨"ForkPoolModel", "in", "(III)Z"⟩
theorem np_Mo_in : (parseMethodDescriptor y_Mo_in.desc).map (fun q => q.parameters.length) = some 3 := by decide +kernel
theorem w_Mo_in : fxcode y_Mo_in cc_Mo_in 3 (some .boolean) [] ∈ fxTW := fxTW_in 866 (by decide +kernel) rfl
abbrev cc_Mo_inQueues : ByteArray := prog_7_method_13_code
abbrev y_Mo_inQueues : MethodName := ⟨"ForkPoolModel", "inQueues", "(I)I"⟩
theorem np_Mo_inQueues : (parseMethodDescriptor y_Mo_inQueues.desc).map (fun q => q.parameters.length) = some 1 := by decide +kernel
theorem w_Mo_inQueues : fxcode y_Mo_inQueues cc_Mo_inQueues 5 (some .int) [] ∈ fxTW := fxTW_in 984 (by decide +kernel) rfl
abbrev cc_Mo_init : ByteArray := prog_7_method_1_code
abbrev y_Mo_init : MethodName := ⟨"ForkPoolModel", "<init>", "(I)V"⟩
theorem np_Mo_init : (parseMethodDescriptor y_Mo_init.desc).map (fun q => q.parameters.length) = some 1 := by decide +kernel
theorem w_Mo_init : fxcode y_Mo_init cc_Mo_init 2 none [] ∈ fxTW := fxTW_in 753 (by decide +kernel) rfl
abbrev cc_Mo_job : ByteArray := prog_7_method_34_code
abbrev y_Mo_job : MethodName := ⟨"ForkPoolModel", "job", "(II)I"⟩
theorem np_Mo_job : (parseMethodDescriptor y_Mo_job.desc).map (fun q => q.parameters.length) = some 2 := by decide +kernel
theorem w_Mo_job : fxcode y_Mo_job cc_Mo_job 3 (some .int) [] ∈ fxTW := fxTW_in 988 (by decide +kernel) rfl
abbrev cc_Mo_join : ByteArray := prog_7_method_31_code
abbrev y_Mo_join : MethodName := ⟨"ForkPoolModel", "join", "(I)I"⟩
theorem np_Mo_join : (parseMethodDescriptor y_Mo_join.desc).map (fun q => q.parameters.length) = some 1 := by decide +kernel
theorem w_Mo_join : fxcode y_Mo_join cc_Mo_join 3 (some .int) [] ∈ fxTW := fxTW_in 968 (by decide +kernel) rfl
abbrev cc_Mo_joined : ByteArray := prog_7_method_22_code
abbrev y_Mo_joined : MethodName := ⟨"ForkPoolModel", "joined", "(IJJ)J"⟩
theorem np_Mo_joined : (parseMethodDescriptor y_Mo_joined.desc).map (fun q => q.parameters.length) = some 3 := by decide +kernel
theorem w_Mo_joined : fxcode y_Mo_joined cc_Mo_joined 6 (some .long) [] ∈ fxTW := fxTW_in 927 (by decide +kernel) rfl
abbrev cc_Mo_kept : ByteArray := prog_7_method_5_code
abbrev y_Mo_kept : MethodName := ⟨"ForkPoolModel", "kept", "(IJ)J"⟩
theorem np_Mo_kept : (parseMethodDescriptor y_Mo_kept.desc).map (fun q => q.parameters.length) = some 2 := by decide +kernel
theorem w_Mo_kept : fxcode y_Mo_kept cc_Mo_kept 3 (some .long) [] ∈ fxTW := fxTW_in 885 (by decide +kernel) rfl
abbrev cc_Mo_leaf : ByteArray := prog_7_method_24_code
abbrev y_Mo_leaf : MethodName := ⟨"ForkPoolModel", "leaf", "(I)Z"⟩
theorem np_Mo_leaf : (parseMethodDescriptor y_Mo_leaf.desc).map (fun q => q.parameters.length) = some 1 := by decide +kernel
theorem w_Mo_leaf : fxcode y_Mo_leaf cc_Mo_leaf 5 (some .boolean) [] ∈ fxTW := fxTW_in 931 (by decide +kernel) rfl
abbrev cc_Mo_mapped : ByteArray := prog_7_method_18_code
abbrev y_Mo_mapped : MethodName := ⟨"ForkPoolModel", "mapped", "(IJ)J"⟩
theorem np_Mo_mapped : (parseMethodDescriptor y_Mo_mapped.desc).map (fun q => q.parameters.length) = some 2 := by decide +kernel
theorem w_Mo_mapped : fxcode y_Mo_mapped cc_Mo_mapped 5 (some .long) [] ∈ fxTW := fxTW_in 951 (by decide +kernel) rfl
abbrev cc_Mo_noElement : ByteArray := prog_7_method_8_code
abbrev y_Mo_noElement : MethodName := ⟨"ForkPoolModel", "noElement", "(II)Z"⟩
theorem np_Mo_noElement : (parseMethodDescriptor y_Mo_noElement.desc).map (fun q => q.parameters.length) = some 2 := by decide +kernel
theorem w_Mo_noElement : fxcode y_Mo_noElement cc_Mo_noElement 3 (some .boolean) [] ∈ fxTW := fxTW_in 882 (by decide +kernel) rfl
abbrev cc_Mo_noJob : ByteArray := prog_7_method_30_code
abbrev y_Mo_noJob : MethodName := ⟨"ForkPoolModel", "noJob", "(I)Z"⟩
theorem np_Mo_noJob : (parseMethodDescriptor y_Mo_noJob.desc).map (fun q => q.parameters.length) = some 1 := by decide +kernel
theorem w_Mo_noJob : fxcode y_Mo_noJob cc_Mo_noJob 2 (some .boolean) [] ∈ fxTW := fxTW_in 972 (by decide +kernel) rfl
abbrev cc_Mo_node : ByteArray := prog_7_method_15_code
abbrev y_Mo_node : MethodName := ⟨"ForkPoolModel", "node", "(IIII)I"⟩
theorem np_Mo_node : (parseMethodDescriptor y_Mo_node.desc).map (fun q => q.parameters.length) = some 4 := by decide +kernel
theorem w_Mo_node : fxcode y_Mo_node cc_Mo_node 6 (some .int) [] ∈ fxTW := fxTW_in 899 (by decide +kernel) rfl
abbrev cc_Mo_order : ByteArray := prog_7_method_20_code
abbrev y_Mo_order : MethodName := ⟨"ForkPoolModel", "order", "(III)V"⟩
theorem np_Mo_order : (parseMethodDescriptor y_Mo_order.desc).map (fun q => q.parameters.length) = some 3 := by decide +kernel
theorem w_Mo_order : fxcode y_Mo_order cc_Mo_order 8 none [] ∈ fxTW := fxTW_in 943 (by decide +kernel) rfl
abbrev cc_Mo_perform : ByteArray := prog_7_method_27_code
abbrev y_Mo_perform : MethodName := ⟨"ForkPoolModel", "perform", "(II)V"⟩
theorem np_Mo_perform : (parseMethodDescriptor y_Mo_perform.desc).map (fun q => q.parameters.length) = some 2 := by decide +kernel
theorem w_Mo_perform : fxcode y_Mo_perform cc_Mo_perform 5 none [] ∈ fxTW := fxTW_in 919 (by decide +kernel) rfl
abbrev cc_Mo_pull : ByteArray := prog_7_method_12_code
abbrev y_Mo_pull : MethodName := ⟨"ForkPoolModel", "pull", "(II)I"⟩
theorem np_Mo_pull : (parseMethodDescriptor y_Mo_pull.desc).map (fun q => q.parameters.length) = some 2 := by decide +kernel
theorem w_Mo_pull : fxcode y_Mo_pull cc_Mo_pull 5 (some .int) [] ∈ fxTW := fxTW_in 915 (by decide +kernel) rfl
abbrev cc_Mo_put : ByteArray := prog_7_method_11_code
abbrev y_Mo_put : MethodName := ⟨"ForkPoolModel", "put", "(II)V"⟩
theorem np_Mo_put : (parseMethodDescriptor y_Mo_put.desc).map (fun q => q.parameters.length) = some 2 := by decide +kernel
theorem w_Mo_put : fxcode y_Mo_put cc_Mo_put 3 none [] ∈ fxTW := fxTW_in 903 (by decide +kernel) rfl
abbrev cc_Mo_raise : ByteArray := prog_7_method_3_code
abbrev y_Mo_raise : MethodName := ⟨"ForkPoolModel", "raise", "(I)I"⟩
theorem np_Mo_raise : (parseMethodDescriptor y_Mo_raise.desc).map (fun q => q.parameters.length) = some 1 := by decide +kernel
theorem w_Mo_raise : fxcode y_Mo_raise cc_Mo_raise 2 (some .int) [] ∈ fxTW := fxTW_in 870 (by decide +kernel) rfl
abbrev cc_Mo_reduced : ByteArray := prog_7_method_21_code
abbrev y_Mo_reduced : MethodName := ⟨"ForkPoolModel", "reduced", "(I)J"⟩
theorem np_Mo_reduced : (parseMethodDescriptor y_Mo_reduced.desc).map (fun q => q.parameters.length) = some 1 := by decide +kernel
theorem w_Mo_reduced : fxcode y_Mo_reduced cc_Mo_reduced 7 (some .long) [] ∈ fxTW := fxTW_in 935 (by decide +kernel) rfl
abbrev cc_Mo_result : ByteArray := prog_7_method_32_code
abbrev y_Mo_result : MethodName := ⟨"ForkPoolModel", "result", "(I)J"⟩
theorem np_Mo_result : (parseMethodDescriptor y_Mo_result.desc).map (fun q => q.parameters.length) = some 1 := by decide +kernel
theorem w_Mo_result : fxcode y_Mo_result cc_Mo_result 2 (some .long) [] ∈ fxTW := fxTW_in 976 (by decide +kernel) rfl
abbrev cc_Mo_set : ByteArray := prog_7_method_9_code
abbrev y_Mo_set : MethodName := ⟨"ForkPoolModel", "set", "(IIJ)J"⟩
theorem np_Mo_set : (parseMethodDescriptor y_Mo_set.desc).map (fun q => q.parameters.length) = some 3 := by decide +kernel
theorem w_Mo_set : fxcode y_Mo_set cc_Mo_set 5 (some .long) [] ∈ fxTW := fxTW_in 878 (by decide +kernel) rfl
abbrev cc_Mo_shared : ByteArray := prog_7_method_19_code
abbrev y_Mo_shared : MethodName := ⟨"ForkPoolModel", "shared", "(IJ)J"⟩
theorem np_Mo_shared : (parseMethodDescriptor y_Mo_shared.desc).map (fun q => q.parameters.length) = some 2 := by decide +kernel
theorem w_Mo_shared : fxcode y_Mo_shared cc_Mo_shared 5 (some .long) [] ∈ fxTW := fxTW_in 956 (by decide +kernel) rfl
abbrev cc_Mo_spread : ByteArray := prog_7_method_23_code
abbrev y_Mo_spread : MethodName := ⟨"ForkPoolModel", "spread", "(I)V"⟩
theorem np_Mo_spread : (parseMethodDescriptor y_Mo_spread.desc).map (fun q => q.parameters.length) = some 1 := by decide +kernel
theorem w_Mo_spread : fxcode y_Mo_spread cc_Mo_spread 7 none [] ∈ fxTW := fxTW_in 939 (by decide +kernel) rfl
abbrev cc_Mo_step : ByteArray := prog_7_method_29_code
abbrev y_Mo_step : MethodName := ⟨"ForkPoolModel", "step", "(I)I"⟩
theorem np_Mo_step : (parseMethodDescriptor y_Mo_step.desc).map (fun q => q.parameters.length) = some 1 := by decide +kernel
theorem w_Mo_step : fxcode y_Mo_step cc_Mo_step 4 (some .int) [] ∈ fxTW := fxTW_in 907 (by decide +kernel) rfl
abbrev cc_Mo_task : ByteArray := prog_7_method_35_code
abbrev y_Mo_task : MethodName := ⟨"ForkPoolModel", "task", "(III)I"⟩
theorem np_Mo_task : (parseMethodDescriptor y_Mo_task.desc).map (fun q => q.parameters.length) = some 3 := by decide +kernel
theorem w_Mo_task : fxcode y_Mo_task cc_Mo_task 5 (some .int) [] ∈ fxTW := fxTW_in 992 (by decide +kernel) rfl
abbrev cc_Mo_thrown : ByteArray := prog_7_method_2_code
abbrev y_Mo_thrown : MethodName := ⟨"ForkPoolModel", "thrown", "()I"⟩
theorem np_Mo_thrown : (parseMethodDescriptor y_Mo_thrown.desc).map (fun q => q.parameters.length) = some 0 := by decide +kernel
theorem w_Mo_thrown : fxcode y_Mo_thrown cc_Mo_thrown 1 (some .int) [] ∈ fxTW := fxTW_in 859 (by decide +kernel) rfl
abbrev cc_Mo_turns : ByteArray := prog_7_method_28_code
abbrev y_Mo_turns : MethodName := ⟨"ForkPoolModel", "turns", "()Z"⟩
theorem np_Mo_turns : (parseMethodDescriptor y_Mo_turns.desc).map (fun q => q.parameters.length) = some 0 := by decide +kernel
theorem w_Mo_turns : fxcode y_Mo_turns cc_Mo_turns 4 (some .boolean) [] ∈ fxTW := fxTW_in 911 (by decide +kernel) rfl
abbrev cc_Mo_worker : ByteArray := prog_7_method_36_code
abbrev y_Mo_worker : MethodName := ⟨"ForkPoolModel", "worker", "(II)I"⟩
theorem np_Mo_worker : (parseMethodDescriptor y_Mo_worker.desc).map (fun q => q.parameters.length) = some 2 := by decide +kernel
theorem w_Mo_worker : fxcode y_Mo_worker cc_Mo_worker 3 (some .int) [] ∈ fxTW := fxTW_in 996 (by decide +kernel) rfl
abbrev cc_Ob_checkIndex : ByteArray := prog_28_method_17_code
abbrev y_Ob_checkIndex : MethodName := ⟨"java/util/Objects", "checkIndex", "(II)I"⟩
theorem np_Ob_checkIndex : (parseMethodDescriptor y_Ob_checkIndex.desc).map (fun q => q.parameters.length) = some 2 := by decide +kernel
theorem w_Ob_checkIndex : fxcode y_Ob_checkIndex cc_Ob_checkIndex 2 (some .int) [] ∈ fxTW := fxTW_in 522 (by decide +kernel) rfl
abbrev cc_Oj_init : ByteArray := object_method_1_code
abbrev y_Oj_init : MethodName := ⟨"java/lang/Object", "<init>", "()V"⟩
theorem np_Oj_init : (parseMethodDescriptor y_Oj_init.desc).map (fun q => q.parameters.length) = some 0 := by decide +kernel
theorem w_Oj_init : fxcode y_Oj_init cc_Oj_init 1 none [] ∈ fxTW := fxTW_in 69 (by decide +kernel) rfl
abbrev cc_Pc_checkIndex : ByteArray := prog_32_method_11_code
abbrev y_Pc_checkIndex : MethodName := ⟨"jdk/internal/util/Preconditions", "checkIndex", "(IILjava/util/function/BiFunction;)I"⟩
theorem np_Pc_checkIndex : (parseMethodDescriptor y_Pc_checkIndex.desc).map (fun q => q.parameters.length) = some 3 := by decide +kernel
theorem w_Pc_checkIndex : fxcode y_Pc_checkIndex cc_Pc_checkIndex 3 (some .int) [] ∈ fxTW := fxTW_in 525 (by decide +kernel) rfl
abbrev cc_Row_addUp : ByteArray := prog_3_method_7_code
abbrev y_Row_addUp : MethodName := ⟨"ForkPool$Row", "addUp", "(IIJ)V"⟩
theorem np_Row_addUp : (parseMethodDescriptor y_Row_addUp.desc).map (fun q => q.parameters.length) = some 3 := by decide +kernel
theorem w_Row_addUp : fxcode y_Row_addUp cc_Row_addUp 8 none [] ∈ fxTW := fxTW_in 568 (by decide +kernel) rfl
abbrev cc_Row_greatestOf : ByteArray := prog_3_method_6_code
abbrev y_Row_greatestOf : MethodName := ⟨"ForkPool$Row", "greatestOf", "(II)J"⟩
theorem np_Row_greatestOf : (parseMethodDescriptor y_Row_greatestOf.desc).map (fun q => q.parameters.length) = some 2 := by decide +kernel
theorem w_Row_greatestOf : fxcode y_Row_greatestOf cc_Row_greatestOf 6 (some .long) [] ∈ fxTW := fxTW_in 564 (by decide +kernel) rfl
abbrev cc_Row_init : ByteArray := prog_3_method_1_code
abbrev y_Row_init : MethodName := ⟨"ForkPool$Row", "<init>", "()V"⟩
theorem np_Row_init : (parseMethodDescriptor y_Row_init.desc).map (fun q => q.parameters.length) = some 0 := by decide +kernel
theorem w_Row_init : fxcode y_Row_init cc_Row_init 1 none [] ∈ fxTW := fxTW_in 75 (by decide +kernel) rfl
abbrev cc_Row_isInEighths : ByteArray := prog_3_method_3_code
abbrev y_Row_isInEighths : MethodName := ⟨"ForkPool$Row", "isInEighths", "()Z"⟩
theorem np_Row_isInEighths : (parseMethodDescriptor y_Row_isInEighths.desc).map (fun q => q.parameters.length) = some 0 := by decide +kernel
theorem w_Row_isInEighths : fxcode y_Row_isInEighths cc_Row_isInEighths 1 (some .boolean) [] ∈ fxTW := fxTW_in 580 (by decide +kernel) rfl
abbrev cc_Row_kept : ByteArray := prog_3_method_4_code
abbrev y_Row_kept : MethodName := ⟨"ForkPool$Row", "kept", "(J)J"⟩
theorem np_Row_kept : (parseMethodDescriptor y_Row_kept.desc).map (fun q => q.parameters.length) = some 1 := by decide +kernel
theorem w_Row_kept : fxcode y_Row_kept cc_Row_kept 3 (some .long) [] ∈ fxTW := fxTW_in 315 (by decide +kernel) rfl
abbrev cc_Row_make : ByteArray := prog_3_method_2_code
abbrev y_Row_make : MethodName := ⟨"ForkPool$Row", "make", "(II)V"⟩
theorem np_Row_make : (parseMethodDescriptor y_Row_make.desc).map (fun q => q.parameters.length) = some 2 := by decide +kernel
theorem w_Row_make : fxcode y_Row_make cc_Row_make 4 none [] ∈ fxTW := fxTW_in 278 (by decide +kernel) rfl
abbrev cc_Row_mapAll : ByteArray := prog_3_method_9_code
abbrev y_Row_mapAll : MethodName := ⟨"ForkPool$Row", "mapAll", "(IIJJ)V"⟩
theorem np_Row_mapAll : (parseMethodDescriptor y_Row_mapAll.desc).map (fun q => q.parameters.length) = some 4 := by decide +kernel
theorem w_Row_mapAll : fxcode y_Row_mapAll cc_Row_mapAll 10 none [] ∈ fxTW := fxTW_in 576 (by decide +kernel) rfl
abbrev cc_Row_putInOrder : ByteArray := prog_3_method_8_code
abbrev y_Row_putInOrder : MethodName := ⟨"ForkPool$Row", "putInOrder", "(II)V"⟩
theorem np_Row_putInOrder : (parseMethodDescriptor y_Row_putInOrder.desc).map (fun q => q.parameters.length) = some 2 := by decide +kernel
theorem w_Row_putInOrder : fxcode y_Row_putInOrder cc_Row_putInOrder 7 none [] ∈ fxTW := fxTW_in 572 (by decide +kernel) rfl
abbrev cc_Row_shareAll : ByteArray := prog_3_method_10_code
abbrev y_Row_shareAll : MethodName := ⟨"ForkPool$Row", "shareAll", "(IIJ)I"⟩
theorem np_Row_shareAll : (parseMethodDescriptor y_Row_shareAll.desc).map (fun q => q.parameters.length) = some 3 := by decide +kernel
theorem w_Row_shareAll : fxcode y_Row_shareAll cc_Row_shareAll 10 (some .int) [] ∈ fxTW := fxTW_in 585 (by decide +kernel) rfl
abbrev cc_Row_sumOf : ByteArray := prog_3_method_5_code
abbrev y_Row_sumOf : MethodName := ⟨"ForkPool$Row", "sumOf", "(II)J"⟩
theorem np_Row_sumOf : (parseMethodDescriptor y_Row_sumOf.desc).map (fun q => q.parameters.length) = some 2 := by decide +kernel
theorem w_Row_sumOf : fxcode y_Row_sumOf cc_Row_sumOf 6 (some .long) [] ∈ fxTW := fxTW_in 559 (by decide +kernel) rfl
abbrev cc_Task_fork : ByteArray := prog_4_method_3_code
abbrev y_Task_fork : MethodName := ⟨"ForkPool$Task", "fork", "()V"⟩
theorem np_Task_fork : (parseMethodDescriptor y_Task_fork.desc).map (fun q => q.parameters.length) = some 0 := by decide +kernel
theorem w_Task_fork : fxcode y_Task_fork cc_Task_fork 2 none [] ∈ fxTW := fxTW_in 547 (by decide +kernel) rfl
abbrev cc_Task_hasForked : ByteArray := prog_4_method_2_code
abbrev y_Task_hasForked : MethodName := ⟨"ForkPool$Task", "hasForked", "()Z"⟩
theorem np_Task_hasForked : (parseMethodDescriptor y_Task_hasForked.desc).map (fun q => q.parameters.length) = some 0 := by decide +kernel
theorem w_Task_hasForked : fxcode y_Task_hasForked cc_Task_hasForked 1 (some .boolean) [] ∈ fxTW := fxTW_in 543 (by decide +kernel) rfl
abbrev cc_Task_init : ByteArray := prog_4_method_1_code
abbrev y_Task_init : MethodName := ⟨"ForkPool$Task", "<init>", "(LForkPool$Job;LForkPool$Task;II)V"⟩
theorem np_Task_init : (parseMethodDescriptor y_Task_init.desc).map (fun q => q.parameters.length) = some 4 := by decide +kernel
theorem w_Task_init : fxcode y_Task_init cc_Task_init 5 none [] ∈ fxTW := fxTW_in 388 (by decide +kernel) rfl
abbrev cc_Wk_dropTasks : ByteArray := prog_5_method_8_code
abbrev y_Wk_dropTasks : MethodName := ⟨"ForkPool$Worker", "dropTasks", "(LForkPool$Job;)V"⟩
theorem np_Wk_dropTasks : (parseMethodDescriptor y_Wk_dropTasks.desc).map (fun q => q.parameters.length) = some 1 := by decide +kernel
theorem w_Wk_dropTasks : fxcode y_Wk_dropTasks cc_Wk_dropTasks 3 none [] ∈ fxTW := fxTW_in 611 (by decide +kernel) rfl
abbrev cc_Wk_fromTop : ByteArray := prog_5_method_6_code
abbrev y_Wk_fromTop : MethodName := ⟨"ForkPool$Worker", "fromTop", "(I)LForkPool$Task;"⟩
theorem np_Wk_fromTop : (parseMethodDescriptor y_Wk_fromTop.desc).map (fun q => q.parameters.length) = some 1 := by decide +kernel
theorem w_Wk_fromTop : fxcode y_Wk_fromTop cc_Wk_fromTop 2 (some (.object "ForkPool$Task")) [] ∈ fxTW := fxTW_in 723 (by decide +kernel) rfl
abbrev cc_Wk_init : ByteArray := prog_5_method_1_code
abbrev y_Wk_init : MethodName := ⟨"ForkPool$Worker", "<init>", "(I)V"⟩
theorem np_Wk_init : (parseMethodDescriptor y_Wk_init.desc).map (fun q => q.parameters.length) = some 1 := by decide +kernel
theorem w_Wk_init : fxcode y_Wk_init cc_Wk_init 2 none [] ∈ fxTW := fxTW_in 101 (by decide +kernel) rfl
abbrev cc_Wk_putOnTop : ByteArray := prog_5_method_3_code
abbrev y_Wk_putOnTop : MethodName := ⟨"ForkPool$Worker", "putOnTop", "(LForkPool$Task;)V"⟩
theorem np_Wk_putOnTop : (parseMethodDescriptor y_Wk_putOnTop.desc).map (fun q => q.parameters.length) = some 1 := by decide +kernel
theorem w_Wk_putOnTop : fxcode y_Wk_putOnTop cc_Wk_putOnTop 2 none [] ∈ fxTW := fxTW_in 436 (by decide +kernel) rfl
abbrev cc_Wk_queueLength : ByteArray := prog_5_method_2_code
abbrev y_Wk_queueLength : MethodName := ⟨"ForkPool$Worker", "queueLength", "()I"⟩
theorem np_Wk_queueLength : (parseMethodDescriptor y_Wk_queueLength.desc).map (fun q => q.parameters.length) = some 0 := by decide +kernel
theorem w_Wk_queueLength : fxcode y_Wk_queueLength cc_Wk_queueLength 1 (some .int) [] ∈ fxTW := fxTW_in 507 (by decide +kernel) rfl
abbrev cc_Wk_queuedTasks : ByteArray := prog_5_method_7_code
abbrev y_Wk_queuedTasks : MethodName := ⟨"ForkPool$Worker", "queuedTasks", "(LForkPool$Job;)I"⟩
theorem np_Wk_queuedTasks : (parseMethodDescriptor y_Wk_queuedTasks.desc).map (fun q => q.parameters.length) = some 1 := by decide +kernel
theorem w_Wk_queuedTasks : fxcode y_Wk_queuedTasks cc_Wk_queuedTasks 4 (some .int) [] ∈ fxTW := fxTW_in 698 (by decide +kernel) rfl
abbrev cc_Wk_takeBottom : ByteArray := prog_5_method_5_code
abbrev y_Wk_takeBottom : MethodName := ⟨"ForkPool$Worker", "takeBottom", "()LForkPool$Task;"⟩
theorem np_Wk_takeBottom : (parseMethodDescriptor y_Wk_takeBottom.desc).map (fun q => q.parameters.length) = some 0 := by decide +kernel
theorem w_Wk_takeBottom : fxcode y_Wk_takeBottom cc_Wk_takeBottom 1 (some (.object "ForkPool$Task")) [] ∈ fxTW := fxTW_in 627 (by decide +kernel) rfl
abbrev cc_Wk_takeTop : ByteArray := prog_5_method_4_code
abbrev y_Wk_takeTop : MethodName := ⟨"ForkPool$Worker", "takeTop", "()LForkPool$Task;"⟩
theorem np_Wk_takeTop : (parseMethodDescriptor y_Wk_takeTop.desc).map (fun q => q.parameters.length) = some 0 := by decide +kernel
theorem w_Wk_takeTop : fxcode y_Wk_takeTop cc_Wk_takeTop 1 (some (.object "ForkPool$Task")) [] ∈ fxTW := fxTW_in 515 (by decide +kernel) rfl
theorem an_AL_7 {G : fxG} {d nL : Nat} {cc : ByteArray} {nm : String} {ret : Option FieldType} {hh : List (Nat × Nat × Nat × Nat)} {x : fxX} {Q : State → Prop} {w : fxW} {pc : Nat} {ls : List (Nat × Value)} {st : List Value} (C : fxC G d cc nL "java/util/ArrayList" nm ret hh x) {N : Nat} {j : Int} (hd : decode cc pc = .ok (.anewarray 7, 3)) (hj : j = (N : Int)) (hN : N ≤ 100000) (h9 : fxt w + 1 ≤ fxmt G) (h8 : fxu w + N ≤ fxmu G) (k : fxR G nL x Q (fx_newa w 2 N .null) (pc + 3) ls (.ref (fxt w) :: st)) : fxR G nL x Q w pc ls (zi j :: st) := r_anew (t := 2) (E := "java/lang/Object") C hd (by decide) rfl (fxTW_in 491 (by decide +kernel) rfl) (fxTW_in 484 (by decide +kernel) rfl) (by subst hj; rw [← z_nat]; exact nI_pos (by omega)) (by subst hj; rw [← z_nat]; exact nI_clamp (by omega)) (by omega) h9 h8 k
theorem lk_AL_9 : Cond.fieldLink "java/util/ArrayList" 9 "java/util/ArrayList" "elementData" "[Ljava/lang/Object;" ∈ fxTW := fxTW_in 117 (by decide +kernel) rfl
theorem g_AL_9 {G : fxG} {d nL : Nat} {cc : ByteArray} {nm : String} {ret : Option FieldType} {hh : List (Nat × Nat × Nat × Nat)} {x : fxX} {Q : State → Prop} {w : fxW} {pc : Nat} {ls : List (Nat × Value)} {st : List Value} (C : fxC G d cc nL "java/util/ArrayList" nm ret hh x) {a n : Nat} {v : Value} (hd : decode cc pc = .ok (.getfield 9, 3)) (ha : fxk w a = some (5, n)) (hv : fxf w 320 a = v) (k : fxR G nL x Q w (pc + 3) ls (v :: st)) : fxR G nL x Q w pc ls (.ref a :: st) := r_get (Cn := RAL) (T := FAL) (N := 3) (ci := 5) (k0 := 0) C hd rfl (by decide) inAL (by decide) lk_AL_9 (Or.inl rfl) ha hv k
theorem lk_AL_48 : Cond.fieldLink "java/util/ArrayList" 48 "java/util/ArrayList" "size" "I" ∈ fxTW := fxTW_in 118 (by decide +kernel) rfl
theorem g_AL_48 {G : fxG} {d nL : Nat} {cc : ByteArray} {nm : String} {ret : Option FieldType} {hh : List (Nat × Nat × Nat × Nat)} {x : fxX} {Q : State → Prop} {w : fxW} {pc : Nat} {ls : List (Nat × Value)} {st : List Value} (C : fxC G d cc nL "java/util/ArrayList" nm ret hh x) {a n : Nat} {v : Value} (hd : decode cc pc = .ok (.getfield 48, 3)) (ha : fxk w a = some (5, n)) (hv : fxf w 321 a = v) (k : fxR G nL x Q w (pc + 3) ls (v :: st)) : fxR G nL x Q w pc ls (.ref a :: st) := r_get (Cn := RAL) (T := FAL) (N := 3) (ci := 5) (k0 := 1) C hd rfl (by decide) inAL (by decide) lk_AL_48 (Or.inl rfl) ha hv k
theorem lk_AL_63 : Cond.fieldLink "java/util/ArrayList" 63 "java/util/ArrayList" "modCount" "I" ∈ fxTW := fxTW_in 120 (by decide +kernel) rfl
theorem g_AL_63 {G : fxG} {d nL : Nat} {cc : ByteArray} {nm : String} {ret : Option FieldType} {hh : List (Nat × Nat × Nat × Nat)} {x : fxX} {Q : State → Prop} {w : fxW} {pc : Nat} {ls : List (Nat × Value)} {st : List Value} (C : fxC G d cc nL "java/util/ArrayList" nm ret hh x) {a n : Nat} {v : Value} (hd : decode cc pc = .ok (.getfield 63, 3)) (ha : fxk w a = some (5, n)) (hv : fxf w 322 a = v) (k : fxR G nL x Q w (pc + 3) ls (v :: st)) : fxR G nL x Q w pc ls (.ref a :: st) := r_get (Cn := RAL) (T := FAL) (N := 3) (ci := 5) (k0 := 2) C hd rfl (by decide) inAL (by decide) lk_AL_63 (Or.inr (fxTW_in 121 (by decide +kernel) rfl)) ha hv k
theorem lm_AL_1 : Cond.methodLink "java/util/ArrayList" 1 y_AbL_init ∈ fxTW := fxTW_in 108 (by decide +kernel) rfl
theorem c_AL_1 {G : fxG} {d nL : Nat} {cc : ByteArray} {nm : String} {ret : Option FieldType} {hh : List (Nat × Nat × Nat × Nat)} {x : fxX} {Q : State → Prop} {w : fxW} {pc : Nat} {ls : List (Nat × Value)} {st : List Value} (C : fxC G d cc nL "java/util/ArrayList" nm ret hh x) {b d' : Nat} {P : Outcome → fxW → Prop} (hd : decode cc pc = .ok (.invokespecial 1, 3)) (hM : fxM G d' y_AbL_init (.ref b :: []) w P) (hdd : d' < d) (hst : (st.map fun v => v.category).sum ≤ 8) (k1 : ∀ v w', P (.returned v) w' → fxR G nL x Q w' (pc + 3) ls (v.toList ++ st)) (k2 : ∀ a w', P (.threw a) w' → fxRt G nL x Q w' pc ls st a) : fxR G nL x Q w pc ls (.ref b :: st) := r_callI (As := []) C hd lm_AL_1 rfl (fxTW_in 109 (by decide +kernel) rfl) w_AbL_init ini_java_util_AbstractList (by decide) np_AbL_init (by decide) hM hdd hst rfl k1 k2
theorem lm_AL_66 : Cond.methodLink "java/util/ArrayList" 66 y_Ar_copyOf2 ∈ fxTW := fxTW_in 461 (by decide +kernel) rfl
theorem c_AL_66 {G : fxG} {d nL : Nat} {cc : ByteArray} {nm : String} {ret : Option FieldType} {hh : List (Nat × Nat × Nat × Nat)} {x : fxX} {Q : State → Prop} {w : fxW} {pc : Nat} {ls : List (Nat × Value)} {st : List Value} (C : fxC G d cc nL "java/util/ArrayList" nm ret hh x) {d' : Nat} {a0 a1 : Value} {P : Outcome → fxW → Prop} (hd : decode cc pc = .ok (.invokestatic 66, 3)) (hM : fxM G d' y_Ar_copyOf2 [a0, a1] w P) (hdd : d' < d) (hst : (st.map fun v => v.category).sum ≤ 8) (k1 : ∀ v w', P (.returned v) w' → fxR G nL x Q w' (pc + 3) ls (v.toList ++ st)) (k2 : ∀ a w', P (.threw a) w' → fxRt G nL x Q w' pc ls st a) : fxR G nL x Q w pc ls (a1 :: a0 :: st) := r_callS (As := [a0, a1]) C hd lm_AL_66 (fxTW_in 462 (by decide +kernel) rfl) w_Ar_copyOf2 ini_java_util_Arrays (by decide) np_Ar_copyOf2 (by decide) hM hdd hst rfl k1 k2
theorem lm_AL_73 : Cond.methodLink "java/util/ArrayList" 73 y_As_newLength ∈ fxTW := fxTW_in 453 (by decide +kernel) rfl
theorem c_AL_73 {G : fxG} {d nL : Nat} {cc : ByteArray} {nm : String} {ret : Option FieldType} {hh : List (Nat × Nat × Nat × Nat)} {x : fxX} {Q : State → Prop} {w : fxW} {pc : Nat} {ls : List (Nat × Value)} {st : List Value} (C : fxC G d cc nL "java/util/ArrayList" nm ret hh x) {d' : Nat} {a0 a1 a2 : Value} {P : Outcome → fxW → Prop} (hd : decode cc pc = .ok (.invokestatic 73, 3)) (hM : fxM G d' y_As_newLength [a0, a1, a2] w P) (hdd : d' < d) (hst : (st.map fun v => v.category).sum ≤ 8) (k1 : ∀ v w', P (.returned v) w' → fxR G nL x Q w' (pc + 3) ls (v.toList ++ st)) (k2 : ∀ a w', P (.threw a) w' → fxRt G nL x Q w' pc ls st a) : fxR G nL x Q w pc ls (a2 :: a1 :: a0 :: st) := r_callS (As := [a0, a1, a2]) C hd lm_AL_73 (fxTW_in 454 (by decide +kernel) rfl) w_As_newLength ini_jdk_internal_util_ArraysSupport (by decide) np_As_newLength (by decide) hM hdd hst rfl k1 k2
theorem lm_AL_79 : Cond.methodLink "java/util/ArrayList" 79 y_Ma_maxI ∈ fxTW := fxTW_in 490 (by decide +kernel) rfl
theorem c_AL_79 {G : fxG} {d nL : Nat} {cc : ByteArray} {nm : String} {ret : Option FieldType} {hh : List (Nat × Nat × Nat × Nat)} {x : fxX} {Q : State → Prop} {w : fxW} {pc : Nat} {ls : List (Nat × Value)} {st : List Value} (C : fxC G d cc nL "java/util/ArrayList" nm ret hh x) {d' : Nat} {a0 a1 : Value} {P : Outcome → fxW → Prop} (hd : decode cc pc = .ok (.invokestatic 79, 3)) (hM : fxM G d' y_Ma_maxI [a0, a1] w P) (hdd : d' < d) (hst : (st.map fun v => v.category).sum ≤ 8) (k1 : ∀ v w', P (.returned v) w' → fxR G nL x Q w' (pc + 3) ls (v.toList ++ st)) (k2 : ∀ a w', P (.threw a) w' → fxRt G nL x Q w' pc ls st a) : fxR G nL x Q w pc ls (a1 :: a0 :: st) := r_callS (As := [a0, a1]) C hd lm_AL_79 (fxTW_in 94 (by decide +kernel) rfl) w_Ma_maxI ini_java_lang_Math (by decide) np_Ma_maxI (by decide) hM hdd hst rfl k1 k2
-- callee without code ('M', 'java/lang/System', 'arraycopy', '(Ljava/lang/Object;ILjava/lang/Object;II)V')
theorem lm_AL_118 : Cond.methodLink "java/util/ArrayList" 118 y_Ob_checkIndex ∈ fxTW := fxTW_in 520 (by decide +kernel) rfl
theorem c_AL_118 {G : fxG} {d nL : Nat} {cc : ByteArray} {nm : String} {ret : Option FieldType} {hh : List (Nat × Nat × Nat × Nat)} {x : fxX} {Q : State → Prop} {w : fxW} {pc : Nat} {ls : List (Nat × Value)} {st : List Value} (C : fxC G d cc nL "java/util/ArrayList" nm ret hh x) {d' : Nat} {a0 a1 : Value} {P : Outcome → fxW → Prop} (hd : decode cc pc = .ok (.invokestatic 118, 3)) (hM : fxM G d' y_Ob_checkIndex [a0, a1] w P) (hdd : d' < d) (hst : (st.map fun v => v.category).sum ≤ 8) (k1 : ∀ v w', P (.returned v) w' → fxR G nL x Q w' (pc + 3) ls (v.toList ++ st)) (k2 : ∀ a w', P (.threw a) w' → fxRt G nL x Q w' pc ls st a) : fxR G nL x Q w pc ls (a1 :: a0 :: st) := r_callS (As := [a0, a1]) C hd lm_AL_118 (fxTW_in 521 (by decide +kernel) rfl) w_Ob_checkIndex ini_java_util_Objects (by decide) np_Ob_checkIndex (by decide) hM hdd hst rfl k1 k2
theorem lm_AL_69 : Cond.methodLink "java/util/ArrayList" 69 y_AL_grow1 ∈ fxTW := fxTW_in 449 (by decide +kernel) rfl
theorem c_AL_69 {G : fxG} {d nL : Nat} {cc : ByteArray} {nm : String} {ret : Option FieldType} {hh : List (Nat × Nat × Nat × Nat)} {x : fxX} {Q : State → Prop} {w : fxW} {pc : Nat} {ls : List (Nat × Value)} {st : List Value} (C : fxC G d cc nL "java/util/ArrayList" nm ret hh x) {b n0 d' : Nat} {a0 : Value} {P : Outcome → fxW → Prop} (hd : decode cc pc = .ok (.invokevirtual 69, 3)) (hb9 : fxk w b = some (5, n0)) (hM : fxM G d' y_AL_grow1 (.ref b :: [a0]) w P) (hdd : d' < d) (hst : (st.map fun v => v.category).sum ≤ 8) (k1 : ∀ v w', P (.returned v) w' → fxR G nL x Q w' (pc + 3) ls (v.toList ++ st)) (k2 : ∀ a w', P (.threw a) w' → fxRt G nL x Q w' pc ls st a) : fxR G nL x Q w pc ls (a0 :: .ref b :: st) := r_callV (As := [a0]) (Cn := "java/util/ArrayList") (ci := 5) C hd lm_AL_69 (fxTW_in 451 (by decide +kernel) rfl) (fxTW_in 6 (by decide +kernel) rfl) w_AL_grow1 ini_java_util_ArrayList (by decide) np_AL_grow1 (by decide) (by decide) rfl hb9 hM hdd hst rfl k1 k2
theorem lm_AL_123 : Cond.methodLink "java/util/ArrayList" 123 y_AL_elementData ∈ fxTW := fxTW_in 616 (by decide +kernel) rfl
theorem c_AL_123 {G : fxG} {d nL : Nat} {cc : ByteArray} {nm : String} {ret : Option FieldType} {hh : List (Nat × Nat × Nat × Nat)} {x : fxX} {Q : State → Prop} {w : fxW} {pc : Nat} {ls : List (Nat × Value)} {st : List Value} (C : fxC G d cc nL "java/util/ArrayList" nm ret hh x) {b n0 d' : Nat} {a0 : Value} {P : Outcome → fxW → Prop} (hd : decode cc pc = .ok (.invokevirtual 123, 3)) (hb9 : fxk w b = some (5, n0)) (hM : fxM G d' y_AL_elementData (.ref b :: [a0]) w P) (hdd : d' < d) (hst : (st.map fun v => v.category).sum ≤ 8) (k1 : ∀ v w', P (.returned v) w' → fxR G nL x Q w' (pc + 3) ls (v.toList ++ st)) (k2 : ∀ a w', P (.threw a) w' → fxRt G nL x Q w' pc ls st a) : fxR G nL x Q w pc ls (a0 :: .ref b :: st) := r_callV (As := [a0]) (Cn := "java/util/ArrayList") (ci := 5) C hd lm_AL_123 (fxTW_in 617 (by decide +kernel) rfl) (fxTW_in 618 (by decide +kernel) rfl) w_AL_elementData ini_java_util_ArrayList (by decide) np_AL_elementData (by decide) (by decide) rfl hb9 hM hdd hst rfl k1 k2
theorem lm_AL_129 : Cond.methodLink "java/util/ArrayList" 129 y_AL_grow0 ∈ fxTW := fxTW_in 445 (by decide +kernel) rfl
theorem c_AL_129 {G : fxG} {d nL : Nat} {cc : ByteArray} {nm : String} {ret : Option FieldType} {hh : List (Nat × Nat × Nat × Nat)} {x : fxX} {Q : State → Prop} {w : fxW} {pc : Nat} {ls : List (Nat × Value)} {st : List Value} (C : fxC G d cc nL "java/util/ArrayList" nm ret hh x) {b n0 d' : Nat} {P : Outcome → fxW → Prop} (hd : decode cc pc = .ok (.invokevirtual 129, 3)) (hb9 : fxk w b = some (5, n0)) (hM : fxM G d' y_AL_grow0 (.ref b :: []) w P) (hdd : d' < d) (hst : (st.map fun v => v.category).sum ≤ 8) (k1 : ∀ v w', P (.returned v) w' → fxR G nL x Q w' (pc + 3) ls (v.toList ++ st)) (k2 : ∀ a w', P (.threw a) w' → fxRt G nL x Q w' pc ls st a) : fxR G nL x Q w pc ls (.ref b :: st) := r_callV (As := []) (Cn := "java/util/ArrayList") (ci := 5) C hd lm_AL_129 (fxTW_in 447 (by decide +kernel) rfl) (fxTW_in 5 (by decide +kernel) rfl) w_AL_grow0 ini_java_util_ArrayList (by decide) np_AL_grow0 (by decide) (by decide) rfl hb9 hM hdd hst rfl k1 k2
theorem lm_AL_131 : Cond.methodLink "java/util/ArrayList" 131 y_AL_add3 ∈ fxTW := fxTW_in 441 (by decide +kernel) rfl
theorem c_AL_131 {G : fxG} {d nL : Nat} {cc : ByteArray} {nm : String} {ret : Option FieldType} {hh : List (Nat × Nat × Nat × Nat)} {x : fxX} {Q : State → Prop} {w : fxW} {pc : Nat} {ls : List (Nat × Value)} {st : List Value} (C : fxC G d cc nL "java/util/ArrayList" nm ret hh x) {b n0 d' : Nat} {a0 a1 a2 : Value} {P : Outcome → fxW → Prop} (hd : decode cc pc = .ok (.invokevirtual 131, 3)) (hb9 : fxk w b = some (5, n0)) (hM : fxM G d' y_AL_add3 (.ref b :: [a0, a1, a2]) w P) (hdd : d' < d) (hst : (st.map fun v => v.category).sum ≤ 8) (k1 : ∀ v w', P (.returned v) w' → fxR G nL x Q w' (pc + 3) ls (v.toList ++ st)) (k2 : ∀ a w', P (.threw a) w' → fxRt G nL x Q w' pc ls st a) : fxR G nL x Q w pc ls (a2 :: a1 :: a0 :: .ref b :: st) := r_callV (As := [a0, a1, a2]) (Cn := "java/util/ArrayList") (ci := 5) C hd lm_AL_131 (fxTW_in 443 (by decide +kernel) rfl) (fxTW_in 4 (by decide +kernel) rfl) w_AL_add3 ini_java_util_ArrayList (by decide) np_AL_add3 (by decide) (by decide) rfl hb9 hM hdd hst rfl k1 k2
theorem lm_AL_144 : Cond.methodLink "java/util/ArrayList" 144 y_AL_fastRemove ∈ fxTW := fxTW_in 526 (by decide +kernel) rfl
theorem c_AL_144 {G : fxG} {d nL : Nat} {cc : ByteArray} {nm : String} {ret : Option FieldType} {hh : List (Nat × Nat × Nat × Nat)} {x : fxX} {Q : State → Prop} {w : fxW} {pc : Nat} {ls : List (Nat × Value)} {st : List Value} (C : fxC G d cc nL "java/util/ArrayList" nm ret hh x) {b n0 d' : Nat} {a0 a1 : Value} {P : Outcome → fxW → Prop} (hd : decode cc pc = .ok (.invokevirtual 144, 3)) (hb9 : fxk w b = some (5, n0)) (hM : fxM G d' y_AL_fastRemove (.ref b :: [a0, a1]) w P) (hdd : d' < d) (hst : (st.map fun v => v.category).sum ≤ 8) (k1 : ∀ v w', P (.returned v) w' → fxR G nL x Q w' (pc + 3) ls (v.toList ++ st)) (k2 : ∀ a w', P (.threw a) w' → fxRt G nL x Q w' pc ls st a) : fxR G nL x Q w pc ls (a1 :: a0 :: .ref b :: st) := r_callV (As := [a0, a1]) (Cn := "java/util/ArrayList") (ci := 5) C hd lm_AL_144 (fxTW_in 528 (by decide +kernel) rfl) (fxTW_in 8 (by decide +kernel) rfl) w_AL_fastRemove ini_java_util_ArrayList (by decide) np_AL_fastRemove (by decide) (by decide) rfl hb9 hM hdd hst rfl k1 k2
theorem p_AL_9 {G : fxG} {d nL : Nat} {cc : ByteArray} {nm : String} {ret : Option FieldType} {hh : List (Nat × Nat × Nat × Nat)} {x : fxX} {Q : State → Prop} {w : fxW} {pc : Nat} {ls : List (Nat × Value)} {st : List Value} (C : fxC G d cc nL "java/util/ArrayList" nm ret hh x) {a n : Nat} {v : Value} (hd : decode cc pc = .ok (.putfield 9, 3)) (hn : narrow (tAL 0) v = v) (hfit : fits (tAL 0) v = true) (ha : fxk w a = some (5, n)) (k : fxR G nL x Q (fx_put w 320 a v) (pc + 3) ls st) : fxR G nL x Q w pc ls (v :: .ref a :: st) := r_put (Cn := RAL) (T := FAL) (N := 3) (ci := 5) (k0 := 0) C hd rfl (by decide) inAL tAL tyAL nmAL (by decide) lk_AL_9 (Or.inl rfl) rfl (tyAL 0 (by decide)) hn hfit ha k
theorem p_AL_48 {G : fxG} {d nL : Nat} {cc : ByteArray} {nm : String} {ret : Option FieldType} {hh : List (Nat × Nat × Nat × Nat)} {x : fxX} {Q : State → Prop} {w : fxW} {pc : Nat} {ls : List (Nat × Value)} {st : List Value} (C : fxC G d cc nL "java/util/ArrayList" nm ret hh x) {a n : Nat} {v : Value} (hd : decode cc pc = .ok (.putfield 48, 3)) (hn : narrow (tAL 1) v = v) (hfit : fits (tAL 1) v = true) (ha : fxk w a = some (5, n)) (k : fxR G nL x Q (fx_put w 321 a v) (pc + 3) ls st) : fxR G nL x Q w pc ls (v :: .ref a :: st) := r_put (Cn := RAL) (T := FAL) (N := 3) (ci := 5) (k0 := 1) C hd rfl (by decide) inAL tAL tyAL nmAL (by decide) lk_AL_48 (Or.inl rfl) rfl (tyAL 1 (by decide)) hn hfit ha k
theorem p_AL_63 {G : fxG} {d nL : Nat} {cc : ByteArray} {nm : String} {ret : Option FieldType} {hh : List (Nat × Nat × Nat × Nat)} {x : fxX} {Q : State → Prop} {w : fxW} {pc : Nat} {ls : List (Nat × Value)} {st : List Value} (C : fxC G d cc nL "java/util/ArrayList" nm ret hh x) {a n : Nat} {v : Value} (hd : decode cc pc = .ok (.putfield 63, 3)) (hn : narrow (tAL 2) v = v) (hfit : fits (tAL 2) v = true) (ha : fxk w a = some (5, n)) (k : fxR G nL x Q (fx_put w 322 a v) (pc + 3) ls st) : fxR G nL x Q w pc ls (v :: .ref a :: st) := r_put (Cn := RAL) (T := FAL) (N := 3) (ci := 5) (k0 := 2) C hd rfl (by decide) inAL tAL tyAL nmAL (by decide) lk_AL_63 (Or.inr (fxTW_in 121 (by decide +kernel) rfl)) rfl (tyAL 2 (by decide)) hn hfit ha k
theorem o_AbC_1 {G : fxG} {d nL : Nat} {cc : ByteArray} {nm : String} {ret : Option FieldType} {hh : List (Nat × Nat × Nat × Nat)} {x : fxX} {Q : State → Prop} {w : fxW} {pc : Nat} {ls : List (Nat × Value)} {st : List Value} (C : fxC G d cc nL "java/util/AbstractCollection" nm ret hh x) {b : Nat} (hd : decode cc pc = .ok (.invokespecial 1, 3)) (h1 : 1 ≤ d) (hst : (st.map fun v => v.category).sum ≤ 8) (k : fxR G nL x Q w (pc + 3) ls st) : fxR G nL x Q w pc ls (.ref b :: st) := r_objInit C hd (fxTW_in 114 (by decide +kernel) rfl) (fxTW_in 68 (by decide +kernel) rfl) (fxTW_in 69 (by decide +kernel) rfl) h1 hst k
theorem lm_AbL_1 : Cond.methodLink "java/util/AbstractList" 1 y_AbC_init ∈ fxTW := fxTW_in 111 (by decide +kernel) rfl
theorem c_AbL_1 {G : fxG} {d nL : Nat} {cc : ByteArray} {nm : String} {ret : Option FieldType} {hh : List (Nat × Nat × Nat × Nat)} {x : fxX} {Q : State → Prop} {w : fxW} {pc : Nat} {ls : List (Nat × Value)} {st : List Value} (C : fxC G d cc nL "java/util/AbstractList" nm ret hh x) {b d' : Nat} {P : Outcome → fxW → Prop} (hd : decode cc pc = .ok (.invokespecial 1, 3)) (hM : fxM G d' y_AbC_init (.ref b :: []) w P) (hdd : d' < d) (hst : (st.map fun v => v.category).sum ≤ 8) (k1 : ∀ v w', P (.returned v) w' → fxR G nL x Q w' (pc + 3) ls (v.toList ++ st)) (k2 : ∀ a w', P (.threw a) w' → fxRt G nL x Q w' pc ls st a) : fxR G nL x Q w pc ls (.ref b :: st) := r_callI (As := []) C hd lm_AbL_1 rfl (fxTW_in 112 (by decide +kernel) rfl) w_AbC_init ini_java_util_AbstractCollection (by decide) np_AbC_init (by decide) hM hdd hst rfl k1 k2
-- no field word AbL 7
theorem an_Ar_2 {G : fxG} {d nL : Nat} {cc : ByteArray} {nm : String} {ret : Option FieldType} {hh : List (Nat × Nat × Nat × Nat)} {x : fxX} {Q : State → Prop} {w : fxW} {pc : Nat} {ls : List (Nat × Value)} {st : List Value} (C : fxC G d cc nL "java/util/Arrays" nm ret hh x) {N : Nat} {j : Int} (hd : decode cc pc = .ok (.anewarray 2, 3)) (hj : j = (N : Int)) (hN : N ≤ 100000) (h9 : fxt w + 1 ≤ fxmt G) (h8 : fxu w + N ≤ fxmu G) (k : fxR G nL x Q (fx_newa w 2 N .null) (pc + 3) ls (.ref (fxt w) :: st)) : fxR G nL x Q w pc ls (zi j :: st) := r_anew (t := 2) (E := "java/lang/Object") C hd (by decide) rfl (fxTW_in 485 (by decide +kernel) rfl) (fxTW_in 484 (by decide +kernel) rfl) (by subst hj; rw [← z_nat]; exact nI_pos (by omega)) (by subst hj; rw [← z_nat]; exact nI_clamp (by omega)) (by omega) h9 h8 k
-- no method word Ar 95 invokestatic
-- callee without code ('M', 'java/lang/System', 'arraycopy', '(Ljava/lang/Object;ILjava/lang/Object;II)V')
theorem lm_Ar_300 : Cond.methodLink "java/util/Arrays" 300 y_Ar_copyOf3 ∈ fxTW := fxTW_in 480 (by decide +kernel) rfl
theorem c_Ar_300 {G : fxG} {d nL : Nat} {cc : ByteArray} {nm : String} {ret : Option FieldType} {hh : List (Nat × Nat × Nat × Nat)} {x : fxX} {Q : State → Prop} {w : fxW} {pc : Nat} {ls : List (Nat × Value)} {st : List Value} (C : fxC G d cc nL "java/util/Arrays" nm ret hh x) {d' : Nat} {a0 a1 a2 : Value} {P : Outcome → fxW → Prop} (hd : decode cc pc = .ok (.invokestatic 300, 3)) (hM : fxM G d' y_Ar_copyOf3 [a0, a1, a2] w P) (hdd : d' < d) (hst : (st.map fun v => v.category).sum ≤ 8) (k1 : ∀ v w', P (.returned v) w' → fxR G nL x Q w' (pc + 3) ls (v.toList ++ st)) (k2 : ∀ a w', P (.threw a) w' → fxRt G nL x Q w' pc ls st a) : fxR G nL x Q w pc ls (a2 :: a1 :: a0 :: st) := r_callS (As := [a0, a1, a2]) C hd lm_Ar_300 (fxTW_in 481 (by decide +kernel) rfl) w_Ar_copyOf3 ini_java_util_Arrays (by decide) np_Ar_copyOf3 (by decide) hM hdd hst rfl k1 k2
theorem lm_Ar_304 : Cond.methodLink "java/util/Arrays" 304 y_Ma_minI ∈ fxTW := fxTW_in 486 (by decide +kernel) rfl
theorem c_Ar_304 {G : fxG} {d nL : Nat} {cc : ByteArray} {nm : String} {ret : Option FieldType} {hh : List (Nat × Nat × Nat × Nat)} {x : fxX} {Q : State → Prop} {w : fxW} {pc : Nat} {ls : List (Nat × Value)} {st : List Value} (C : fxC G d cc nL "java/util/Arrays" nm ret hh x) {d' : Nat} {a0 a1 : Value} {P : Outcome → fxW → Prop} (hd : decode cc pc = .ok (.invokestatic 304, 3)) (hM : fxM G d' y_Ma_minI [a0, a1] w P) (hdd : d' < d) (hst : (st.map fun v => v.category).sum ≤ 8) (k1 : ∀ v w', P (.returned v) w' → fxR G nL x Q w' (pc + 3) ls (v.toList ++ st)) (k2 : ∀ a w', P (.threw a) w' → fxRt G nL x Q w' pc ls st a) : fxR G nL x Q w pc ls (a1 :: a0 :: st) := r_callS (As := [a0, a1]) C hd lm_Ar_304 (fxTW_in 91 (by decide +kernel) rfl) w_Ma_minI ini_java_lang_Math (by decide) np_Ma_minI (by decide) hM hdd hst rfl k1 k2
-- callee without code ('M', 'java/lang/Object', 'getClass', '()Ljava/lang/Class;')
-- no method word Ar 90 invokevirtual
-- no method word As 91 invokespecial
-- no method word As 212 invokespecial
theorem lm_As_194 : Cond.methodLink "jdk/internal/util/ArraysSupport" 194 y_Ma_maxI ∈ fxTW := fxTW_in 456 (by decide +kernel) rfl
theorem c_As_194 {G : fxG} {d nL : Nat} {cc : ByteArray} {nm : String} {ret : Option FieldType} {hh : List (Nat × Nat × Nat × Nat)} {x : fxX} {Q : State → Prop} {w : fxW} {pc : Nat} {ls : List (Nat × Value)} {st : List Value} (C : fxC G d cc nL "jdk/internal/util/ArraysSupport" nm ret hh x) {d' : Nat} {a0 a1 : Value} {P : Outcome → fxW → Prop} (hd : decode cc pc = .ok (.invokestatic 194, 3)) (hM : fxM G d' y_Ma_maxI [a0, a1] w P) (hdd : d' < d) (hst : (st.map fun v => v.category).sum ≤ 8) (k1 : ∀ v w', P (.returned v) w' → fxR G nL x Q w' (pc + 3) ls (v.toList ++ st)) (k2 : ∀ a w', P (.threw a) w' → fxRt G nL x Q w' pc ls st a) : fxR G nL x Q w pc ls (a1 :: a0 :: st) := r_callS (As := [a0, a1]) C hd lm_As_194 (fxTW_in 94 (by decide +kernel) rfl) w_Ma_maxI ini_java_lang_Math (by decide) np_Ma_maxI (by decide) hM hdd hst rfl k1 k2
theorem lm_As_201 : Cond.methodLink "jdk/internal/util/ArraysSupport" 201 y_As_hugeLength ∈ fxTW := fxTW_in 458 (by decide +kernel) rfl
theorem c_As_201 {G : fxG} {d nL : Nat} {cc : ByteArray} {nm : String} {ret : Option FieldType} {hh : List (Nat × Nat × Nat × Nat)} {x : fxX} {Q : State → Prop} {w : fxW} {pc : Nat} {ls : List (Nat × Value)} {st : List Value} (C : fxC G d cc nL "jdk/internal/util/ArraysSupport" nm ret hh x) {d' : Nat} {a0 a1 : Value} {P : Outcome → fxW → Prop} (hd : decode cc pc = .ok (.invokestatic 201, 3)) (hM : fxM G d' y_As_hugeLength [a0, a1] w P) (hdd : d' < d) (hst : (st.map fun v => v.category).sum ≤ 8) (k1 : ∀ v w', P (.returned v) w' → fxR G nL x Q w' (pc + 3) ls (v.toList ++ st)) (k2 : ∀ a w', P (.threw a) w' → fxRt G nL x Q w' pc ls st a) : fxR G nL x Q w pc ls (a1 :: a0 :: st) := r_callS (As := [a0, a1]) C hd lm_As_201 (fxTW_in 459 (by decide +kernel) rfl) w_As_hugeLength ini_jdk_internal_util_ArraysSupport (by decide) np_As_hugeLength (by decide) hM hdd hst rfl k1 k2
-- no method word As 94 invokevirtual
-- no method word As 98 invokevirtual
-- no method word As 101 invokevirtual
-- new As 89
-- new As 204
theorem an_FP_9 {G : fxG} {d nL : Nat} {cc : ByteArray} {nm : String} {ret : Option FieldType} {hh : List (Nat × Nat × Nat × Nat)} {x : fxX} {Q : State → Prop} {w : fxW} {pc : Nat} {ls : List (Nat × Value)} {st : List Value} (C : fxC G d cc nL "ForkPool" nm ret hh x) {N : Nat} {j : Int} (hd : decode cc pc = .ok (.anewarray 9, 3)) (hj : j = (N : Int)) (hN : N ≤ 100000) (h9 : fxt w + 1 ≤ fxmt G) (h8 : fxu w + N ≤ fxmu G) (k : fxR G nL x Q (fx_newa w 3 N .null) (pc + 3) ls (.ref (fxt w) :: st)) : fxR G nL x Q w pc ls (zi j :: st) := r_anew (t := 3) (E := "ForkPool$Row") C hd (by decide) rfl (fxTW_in 70 (by decide +kernel) rfl) (fxTW_in 71 (by decide +kernel) rfl) (by subst hj; rw [← z_nat]; exact nI_pos (by omega)) (by subst hj; rw [← z_nat]; exact nI_clamp (by omega)) (by omega) h9 h8 k
theorem an_FP_25 {G : fxG} {d nL : Nat} {cc : ByteArray} {nm : String} {ret : Option FieldType} {hh : List (Nat × Nat × Nat × Nat)} {x : fxX} {Q : State → Prop} {w : fxW} {pc : Nat} {ls : List (Nat × Value)} {st : List Value} (C : fxC G d cc nL "ForkPool" nm ret hh x) {N : Nat} {j : Int} (hd : decode cc pc = .ok (.anewarray 25, 3)) (hj : j = (N : Int)) (hN : N ≤ 100000) (h9 : fxt w + 1 ≤ fxmt G) (h8 : fxu w + N ≤ fxmu G) (k : fxR G nL x Q (fx_newa w 4 N .null) (pc + 3) ls (.ref (fxt w) :: st)) : fxR G nL x Q w pc ls (zi j :: st) := r_anew (t := 4) (E := "ForkPool$Worker") C hd (by decide) rfl (fxTW_in 96 (by decide +kernel) rfl) (fxTW_in 97 (by decide +kernel) rfl) (by subst hj; rw [← z_nat]; exact nI_pos (by omega)) (by subst hj; rw [← z_nat]; exact nI_clamp (by omega)) (by omega) h9 h8 k
theorem an_FP_34 {G : fxG} {d nL : Nat} {cc : ByteArray} {nm : String} {ret : Option FieldType} {hh : List (Nat × Nat × Nat × Nat)} {x : fxX} {Q : State → Prop} {w : fxW} {pc : Nat} {ls : List (Nat × Value)} {st : List Value} (C : fxC G d cc nL "ForkPool" nm ret hh x) {N : Nat} {j : Int} (hd : decode cc pc = .ok (.anewarray 34, 3)) (hj : j = (N : Int)) (hN : N ≤ 100000) (h9 : fxt w + 1 ≤ fxmt G) (h8 : fxu w + N ≤ fxmu G) (k : fxR G nL x Q (fx_newa w 5 N .null) (pc + 3) ls (.ref (fxt w) :: st)) : fxR G nL x Q w pc ls (zi j :: st) := r_anew (t := 5) (E := "ForkPool$Job") C hd (by decide) rfl (fxTW_in 146 (by decide +kernel) rfl) (fxTW_in 147 (by decide +kernel) rfl) (by subst hj; rw [← z_nat]; exact nI_pos (by omega)) (by subst hj; rw [← z_nat]; exact nI_clamp (by omega)) (by omega) h9 h8 k
theorem lk_FP_11 : Cond.fieldLink "ForkPool" 11 "ForkPool" "rows" "[LForkPool$Row;" ∈ fxTW := fxTW_in 148 (by decide +kernel) rfl
theorem g_FP_11 {G : fxG} {d nL : Nat} {cc : ByteArray} {nm : String} {ret : Option FieldType} {hh : List (Nat × Nat × Nat × Nat)} {x : fxX} {Q : State → Prop} {w : fxW} {pc : Nat} {ls : List (Nat × Value)} {st : List Value} (C : fxC G d cc nL "ForkPool" nm ret hh x) {a n : Nat} {v : Value} (hd : decode cc pc = .ok (.getfield 11, 3)) (ha : fxk w a = some (0, n)) (hv : fxf w 0 a = v) (k : fxR G nL x Q w (pc + 3) ls (v :: st)) : fxR G nL x Q w pc ls (.ref a :: st) := r_get (Cn := RFP) (T := FFP) (N := 7) (ci := 0) (k0 := 0) C hd rfl (by decide) inFP (by decide) lk_FP_11 (Or.inl rfl) ha hv k
theorem lk_FP_27 : Cond.fieldLink "ForkPool" 27 "ForkPool" "workers" "[LForkPool$Worker;" ∈ fxTW := fxTW_in 149 (by decide +kernel) rfl
theorem g_FP_27 {G : fxG} {d nL : Nat} {cc : ByteArray} {nm : String} {ret : Option FieldType} {hh : List (Nat × Nat × Nat × Nat)} {x : fxX} {Q : State → Prop} {w : fxW} {pc : Nat} {ls : List (Nat × Value)} {st : List Value} (C : fxC G d cc nL "ForkPool" nm ret hh x) {a n : Nat} {v : Value} (hd : decode cc pc = .ok (.getfield 27, 3)) (ha : fxk w a = some (0, n)) (hv : fxf w 1 a = v) (k : fxR G nL x Q w (pc + 3) ls (v :: st)) : fxR G nL x Q w pc ls (.ref a :: st) := r_get (Cn := RFP) (T := FFP) (N := 7) (ci := 0) (k0 := 1) C hd rfl (by decide) inFP (by decide) lk_FP_27 (Or.inl rfl) ha hv k
theorem lk_FP_36 : Cond.fieldLink "ForkPool" 36 "ForkPool" "jobs" "[LForkPool$Job;" ∈ fxTW := fxTW_in 150 (by decide +kernel) rfl
theorem g_FP_36 {G : fxG} {d nL : Nat} {cc : ByteArray} {nm : String} {ret : Option FieldType} {hh : List (Nat × Nat × Nat × Nat)} {x : fxX} {Q : State → Prop} {w : fxW} {pc : Nat} {ls : List (Nat × Value)} {st : List Value} (C : fxC G d cc nL "ForkPool" nm ret hh x) {a n : Nat} {v : Value} (hd : decode cc pc = .ok (.getfield 36, 3)) (ha : fxk w a = some (0, n)) (hv : fxf w 2 a = v) (k : fxR G nL x Q w (pc + 3) ls (v :: st)) : fxR G nL x Q w pc ls (.ref a :: st) := r_get (Cn := RFP) (T := FFP) (N := 7) (ci := 0) (k0 := 2) C hd rfl (by decide) inFP (by decide) lk_FP_36 (Or.inl rfl) ha hv k
theorem lk_FP_40 : Cond.fieldLink "ForkPool" 40 "ForkPool" "grain" "I" ∈ fxTW := fxTW_in 154 (by decide +kernel) rfl
theorem g_FP_40 {G : fxG} {d nL : Nat} {cc : ByteArray} {nm : String} {ret : Option FieldType} {hh : List (Nat × Nat × Nat × Nat)} {x : fxX} {Q : State → Prop} {w : fxW} {pc : Nat} {ls : List (Nat × Value)} {st : List Value} (C : fxC G d cc nL "ForkPool" nm ret hh x) {a n : Nat} {v : Value} (hd : decode cc pc = .ok (.getfield 40, 3)) (ha : fxk w a = some (0, n)) (hv : fxf w 6 a = v) (k : fxR G nL x Q w (pc + 3) ls (v :: st)) : fxR G nL x Q w pc ls (.ref a :: st) := r_get (Cn := RFP) (T := FFP) (N := 7) (ci := 0) (k0 := 6) C hd rfl (by decide) inFP (by decide) lk_FP_40 (Or.inl rfl) ha hv k
theorem lk_FP_67 : Cond.fieldLinkNest "ForkPool" 67 "ForkPool$Row" "elements" "[J" "ForkPool" ∈ fxTW := fxTW_in 78 (by decide +kernel) rfl
theorem g_FP_67 {G : fxG} {d nL : Nat} {cc : ByteArray} {nm : String} {ret : Option FieldType} {hh : List (Nat × Nat × Nat × Nat)} {x : fxX} {Q : State → Prop} {w : fxW} {pc : Nat} {ls : List (Nat × Value)} {st : List Value} (C : fxC G d cc nL "ForkPool" nm ret hh x) {a n : Nat} {v : Value} (hd : decode cc pc = .ok (.getfield 67, 3)) (ha : fxk w a = some (1, n)) (hv : fxf w 64 a = v) (k : fxR G nL x Q w (pc + 3) ls (v :: st)) : fxR G nL x Q w pc ls (.ref a :: st) := r_getN (Cn := RRow) (T := FRow) (N := 3) (ci := 1) (k0 := 0) C hd rfl (by decide) inRow (by decide) lk_FP_67 (Or.inl rfl) ha hv k
theorem lk_FP_83 : Cond.fieldLink "ForkPool" 83 "ForkPool" "jobsBegun" "I" ∈ fxTW := fxTW_in 151 (by decide +kernel) rfl
theorem g_FP_83 {G : fxG} {d nL : Nat} {cc : ByteArray} {nm : String} {ret : Option FieldType} {hh : List (Nat × Nat × Nat × Nat)} {x : fxX} {Q : State → Prop} {w : fxW} {pc : Nat} {ls : List (Nat × Value)} {st : List Value} (C : fxC G d cc nL "ForkPool" nm ret hh x) {a n : Nat} {v : Value} (hd : decode cc pc = .ok (.getfield 83, 3)) (ha : fxk w a = some (0, n)) (hv : fxf w 3 a = v) (k : fxR G nL x Q w (pc + 3) ls (v :: st)) : fxR G nL x Q w pc ls (.ref a :: st) := r_get (Cn := RFP) (T := FFP) (N := 7) (ci := 0) (k0 := 3) C hd rfl (by decide) inFP (by decide) lk_FP_83 (Or.inl rfl) ha hv k
theorem lk_FP_96 : Cond.fieldLinkNest "ForkPool" 96 "ForkPool$Row" "length" "I" "ForkPool" ∈ fxTW := fxTW_in 81 (by decide +kernel) rfl
theorem g_FP_96 {G : fxG} {d nL : Nat} {cc : ByteArray} {nm : String} {ret : Option FieldType} {hh : List (Nat × Nat × Nat × Nat)} {x : fxX} {Q : State → Prop} {w : fxW} {pc : Nat} {ls : List (Nat × Value)} {st : List Value} (C : fxC G d cc nL "ForkPool" nm ret hh x) {a n : Nat} {v : Value} (hd : decode cc pc = .ok (.getfield 96, 3)) (ha : fxk w a = some (1, n)) (hv : fxf w 66 a = v) (k : fxR G nL x Q w (pc + 3) ls (v :: st)) : fxR G nL x Q w pc ls (.ref a :: st) := r_getN (Cn := RRow) (T := FRow) (N := 3) (ci := 1) (k0 := 2) C hd rfl (by decide) inRow (by decide) lk_FP_96 (Or.inl rfl) ha hv k
theorem lk_FP_106 : Cond.fieldLinkNest "ForkPool" 106 "ForkPool$Job" "number" "I" "ForkPool" ∈ fxTW := fxTW_in 347 (by decide +kernel) rfl
theorem g_FP_106 {G : fxG} {d nL : Nat} {cc : ByteArray} {nm : String} {ret : Option FieldType} {hh : List (Nat × Nat × Nat × Nat)} {x : fxX} {Q : State → Prop} {w : fxW} {pc : Nat} {ls : List (Nat × Value)} {st : List Value} (C : fxC G d cc nL "ForkPool" nm ret hh x) {a n : Nat} {v : Value} (hd : decode cc pc = .ok (.getfield 106, 3)) (ha : fxk w a = some (2, n)) (hv : fxf w 128 a = v) (k : fxR G nL x Q w (pc + 3) ls (v :: st)) : fxR G nL x Q w pc ls (.ref a :: st) := r_getN (Cn := RJob) (T := FJob) (N := 10) (ci := 2) (k0 := 0) C hd rfl (by decide) inJob (by decide) lk_FP_106 (Or.inl rfl) ha hv k
theorem lk_FP_119 : Cond.fieldLinkNest "ForkPool" 119 "ForkPool$Job" "state" "I" "ForkPool" ∈ fxTW := fxTW_in 356 (by decide +kernel) rfl
theorem g_FP_119 {G : fxG} {d nL : Nat} {cc : ByteArray} {nm : String} {ret : Option FieldType} {hh : List (Nat × Nat × Nat × Nat)} {x : fxX} {Q : State → Prop} {w : fxW} {pc : Nat} {ls : List (Nat × Value)} {st : List Value} (C : fxC G d cc nL "ForkPool" nm ret hh x) {a n : Nat} {v : Value} (hd : decode cc pc = .ok (.getfield 119, 3)) (ha : fxk w a = some (2, n)) (hv : fxf w 133 a = v) (k : fxR G nL x Q w (pc + 3) ls (v :: st)) : fxR G nL x Q w pc ls (.ref a :: st) := r_getN (Cn := RJob) (T := FJob) (N := 10) (ci := 2) (k0 := 5) C hd rfl (by decide) inJob (by decide) lk_FP_119 (Or.inl rfl) ha hv k
theorem lk_FP_128 : Cond.fieldLinkNest "ForkPool" 128 "ForkPool$Job" "kind" "I" "ForkPool" ∈ fxTW := fxTW_in 349 (by decide +kernel) rfl
theorem g_FP_128 {G : fxG} {d nL : Nat} {cc : ByteArray} {nm : String} {ret : Option FieldType} {hh : List (Nat × Nat × Nat × Nat)} {x : fxX} {Q : State → Prop} {w : fxW} {pc : Nat} {ls : List (Nat × Value)} {st : List Value} (C : fxC G d cc nL "ForkPool" nm ret hh x) {a n : Nat} {v : Value} (hd : decode cc pc = .ok (.getfield 128, 3)) (ha : fxk w a = some (2, n)) (hv : fxf w 129 a = v) (k : fxR G nL x Q w (pc + 3) ls (v :: st)) : fxR G nL x Q w pc ls (.ref a :: st) := r_getN (Cn := RJob) (T := FJob) (N := 10) (ci := 2) (k0 := 1) C hd rfl (by decide) inJob (by decide) lk_FP_128 (Or.inl rfl) ha hv k
theorem lk_FP_138 : Cond.fieldLinkNest "ForkPool" 138 "ForkPool$Job" "result" "J" "ForkPool" ∈ fxTW := fxTW_in 362 (by decide +kernel) rfl
theorem g_FP_138 {G : fxG} {d nL : Nat} {cc : ByteArray} {nm : String} {ret : Option FieldType} {hh : List (Nat × Nat × Nat × Nat)} {x : fxX} {Q : State → Prop} {w : fxW} {pc : Nat} {ls : List (Nat × Value)} {st : List Value} (C : fxC G d cc nL "ForkPool" nm ret hh x) {a n : Nat} {v : Value} (hd : decode cc pc = .ok (.getfield 138, 3)) (ha : fxk w a = some (2, n)) (hv : fxf w 137 a = v) (k : fxR G nL x Q w (pc + 3) ls (v :: st)) : fxR G nL x Q w pc ls (.ref a :: st) := r_getN (Cn := RJob) (T := FJob) (N := 10) (ci := 2) (k0 := 9) C hd rfl (by decide) inJob (by decide) lk_FP_138 (Or.inl rfl) ha hv k
theorem lk_FP_152 : Cond.fieldLinkNest "ForkPool" 152 "ForkPool$Job" "failedAt" "I" "ForkPool" ∈ fxTW := fxTW_in 358 (by decide +kernel) rfl
theorem g_FP_152 {G : fxG} {d nL : Nat} {cc : ByteArray} {nm : String} {ret : Option FieldType} {hh : List (Nat × Nat × Nat × Nat)} {x : fxX} {Q : State → Prop} {w : fxW} {pc : Nat} {ls : List (Nat × Value)} {st : List Value} (C : fxC G d cc nL "ForkPool" nm ret hh x) {a n : Nat} {v : Value} (hd : decode cc pc = .ok (.getfield 152, 3)) (ha : fxk w a = some (2, n)) (hv : fxf w 134 a = v) (k : fxR G nL x Q w (pc + 3) ls (v :: st)) : fxR G nL x Q w pc ls (.ref a :: st) := r_getN (Cn := RJob) (T := FJob) (N := 10) (ci := 2) (k0 := 6) C hd rfl (by decide) inJob (by decide) lk_FP_152 (Or.inl rfl) ha hv k
theorem lk_FP_155 : Cond.fieldLinkNest "ForkPool" 155 "ForkPool$Job" "tasksDone" "I" "ForkPool" ∈ fxTW := fxTW_in 359 (by decide +kernel) rfl
theorem g_FP_155 {G : fxG} {d nL : Nat} {cc : ByteArray} {nm : String} {ret : Option FieldType} {hh : List (Nat × Nat × Nat × Nat)} {x : fxX} {Q : State → Prop} {w : fxW} {pc : Nat} {ls : List (Nat × Value)} {st : List Value} (C : fxC G d cc nL "ForkPool" nm ret hh x) {a n : Nat} {v : Value} (hd : decode cc pc = .ok (.getfield 155, 3)) (ha : fxk w a = some (2, n)) (hv : fxf w 135 a = v) (k : fxR G nL x Q w (pc + 3) ls (v :: st)) : fxR G nL x Q w pc ls (.ref a :: st) := r_getN (Cn := RJob) (T := FJob) (N := 10) (ci := 2) (k0 := 7) C hd rfl (by decide) inJob (by decide) lk_FP_155 (Or.inl rfl) ha hv k
theorem lk_FP_177 : Cond.fieldLinkNest "ForkPool" 177 "ForkPool$Task" "job" "LForkPool$Job;" "ForkPool" ∈ fxTW := fxTW_in 392 (by decide +kernel) rfl
theorem g_FP_177 {G : fxG} {d nL : Nat} {cc : ByteArray} {nm : String} {ret : Option FieldType} {hh : List (Nat × Nat × Nat × Nat)} {x : fxX} {Q : State → Prop} {w : fxW} {pc : Nat} {ls : List (Nat × Value)} {st : List Value} (C : fxC G d cc nL "ForkPool" nm ret hh x) {a n : Nat} {v : Value} (hd : decode cc pc = .ok (.getfield 177, 3)) (ha : fxk w a = some (3, n)) (hv : fxf w 192 a = v) (k : fxR G nL x Q w (pc + 3) ls (v :: st)) : fxR G nL x Q w pc ls (.ref a :: st) := r_getN (Cn := RTask) (T := FTask) (N := 9) (ci := 3) (k0 := 0) C hd rfl (by decide) inTask (by decide) lk_FP_177 (Or.inl rfl) ha hv k
theorem lk_FP_181 : Cond.fieldLinkNest "ForkPool" 181 "ForkPool$Task" "from" "I" "ForkPool" ∈ fxTW := fxTW_in 397 (by decide +kernel) rfl
theorem g_FP_181 {G : fxG} {d nL : Nat} {cc : ByteArray} {nm : String} {ret : Option FieldType} {hh : List (Nat × Nat × Nat × Nat)} {x : fxX} {Q : State → Prop} {w : fxW} {pc : Nat} {ls : List (Nat × Value)} {st : List Value} (C : fxC G d cc nL "ForkPool" nm ret hh x) {a n : Nat} {v : Value} (hd : decode cc pc = .ok (.getfield 181, 3)) (ha : fxk w a = some (3, n)) (hv : fxf w 194 a = v) (k : fxR G nL x Q w (pc + 3) ls (v :: st)) : fxR G nL x Q w pc ls (.ref a :: st) := r_getN (Cn := RTask) (T := FTask) (N := 9) (ci := 3) (k0 := 2) C hd rfl (by decide) inTask (by decide) lk_FP_181 (Or.inl rfl) ha hv k
theorem lk_FP_184 : Cond.fieldLinkNest "ForkPool" 184 "ForkPool$Task" "to" "I" "ForkPool" ∈ fxTW := fxTW_in 400 (by decide +kernel) rfl
theorem g_FP_184 {G : fxG} {d nL : Nat} {cc : ByteArray} {nm : String} {ret : Option FieldType} {hh : List (Nat × Nat × Nat × Nat)} {x : fxX} {Q : State → Prop} {w : fxW} {pc : Nat} {ls : List (Nat × Value)} {st : List Value} (C : fxC G d cc nL "ForkPool" nm ret hh x) {a n : Nat} {v : Value} (hd : decode cc pc = .ok (.getfield 184, 3)) (ha : fxk w a = some (3, n)) (hv : fxf w 195 a = v) (k : fxR G nL x Q w (pc + 3) ls (v :: st)) : fxR G nL x Q w pc ls (.ref a :: st) := r_getN (Cn := RTask) (T := FTask) (N := 9) (ci := 3) (k0 := 3) C hd rfl (by decide) inTask (by decide) lk_FP_184 (Or.inl rfl) ha hv k
theorem lk_FP_189 : Cond.fieldLinkNest "ForkPool" 189 "ForkPool$Worker" "tasksDone" "I" "ForkPool" ∈ fxTW := fxTW_in 130 (by decide +kernel) rfl
theorem g_FP_189 {G : fxG} {d nL : Nat} {cc : ByteArray} {nm : String} {ret : Option FieldType} {hh : List (Nat × Nat × Nat × Nat)} {x : fxX} {Q : State → Prop} {w : fxW} {pc : Nat} {ls : List (Nat × Value)} {st : List Value} (C : fxC G d cc nL "ForkPool" nm ret hh x) {a n : Nat} {v : Value} (hd : decode cc pc = .ok (.getfield 189, 3)) (ha : fxk w a = some (4, n)) (hv : fxf w 257 a = v) (k : fxR G nL x Q w (pc + 3) ls (v :: st)) : fxR G nL x Q w pc ls (.ref a :: st) := r_getN (Cn := RWk) (T := FWk) (N := 5) (ci := 4) (k0 := 1) C hd rfl (by decide) inWk (by decide) lk_FP_189 (Or.inl rfl) ha hv k
theorem lk_FP_190 : Cond.fieldLinkNest "ForkPool" 190 "ForkPool$Worker" "tasksStolen" "I" "ForkPool" ∈ fxTW := fxTW_in 131 (by decide +kernel) rfl
theorem g_FP_190 {G : fxG} {d nL : Nat} {cc : ByteArray} {nm : String} {ret : Option FieldType} {hh : List (Nat × Nat × Nat × Nat)} {x : fxX} {Q : State → Prop} {w : fxW} {pc : Nat} {ls : List (Nat × Value)} {st : List Value} (C : fxC G d cc nL "ForkPool" nm ret hh x) {a n : Nat} {v : Value} (hd : decode cc pc = .ok (.getfield 190, 3)) (ha : fxk w a = some (4, n)) (hv : fxf w 258 a = v) (k : fxR G nL x Q w (pc + 3) ls (v :: st)) : fxR G nL x Q w pc ls (.ref a :: st) := r_getN (Cn := RWk) (T := FWk) (N := 5) (ci := 4) (k0 := 2) C hd rfl (by decide) inWk (by decide) lk_FP_190 (Or.inl rfl) ha hv k
theorem lk_FP_193 : Cond.fieldLinkNest "ForkPool" 193 "ForkPool$Worker" "idleSteps" "I" "ForkPool" ∈ fxTW := fxTW_in 132 (by decide +kernel) rfl
theorem g_FP_193 {G : fxG} {d nL : Nat} {cc : ByteArray} {nm : String} {ret : Option FieldType} {hh : List (Nat × Nat × Nat × Nat)} {x : fxX} {Q : State → Prop} {w : fxW} {pc : Nat} {ls : List (Nat × Value)} {st : List Value} (C : fxC G d cc nL "ForkPool" nm ret hh x) {a n : Nat} {v : Value} (hd : decode cc pc = .ok (.getfield 193, 3)) (ha : fxk w a = some (4, n)) (hv : fxf w 259 a = v) (k : fxR G nL x Q w (pc + 3) ls (v :: st)) : fxR G nL x Q w pc ls (.ref a :: st) := r_getN (Cn := RWk) (T := FWk) (N := 5) (ci := 4) (k0 := 3) C hd rfl (by decide) inWk (by decide) lk_FP_193 (Or.inl rfl) ha hv k
theorem lk_FP_196 : Cond.fieldLinkNest "ForkPool" 196 "ForkPool$Worker" "victim" "I" "ForkPool" ∈ fxTW := fxTW_in 134 (by decide +kernel) rfl
theorem g_FP_196 {G : fxG} {d nL : Nat} {cc : ByteArray} {nm : String} {ret : Option FieldType} {hh : List (Nat × Nat × Nat × Nat)} {x : fxX} {Q : State → Prop} {w : fxW} {pc : Nat} {ls : List (Nat × Value)} {st : List Value} (C : fxC G d cc nL "ForkPool" nm ret hh x) {a n : Nat} {v : Value} (hd : decode cc pc = .ok (.getfield 196, 3)) (ha : fxk w a = some (4, n)) (hv : fxf w 260 a = v) (k : fxR G nL x Q w (pc + 3) ls (v :: st)) : fxR G nL x Q w pc ls (.ref a :: st) := r_getN (Cn := RWk) (T := FWk) (N := 5) (ci := 4) (k0 := 4) C hd rfl (by decide) inWk (by decide) lk_FP_196 (Or.inl rfl) ha hv k
theorem lk_FP_203 : Cond.fieldLink "ForkPool" 203 "ForkPool" "stepsMade" "I" ∈ fxTW := fxTW_in 152 (by decide +kernel) rfl
theorem g_FP_203 {G : fxG} {d nL : Nat} {cc : ByteArray} {nm : String} {ret : Option FieldType} {hh : List (Nat × Nat × Nat × Nat)} {x : fxX} {Q : State → Prop} {w : fxW} {pc : Nat} {ls : List (Nat × Value)} {st : List Value} (C : fxC G d cc nL "ForkPool" nm ret hh x) {a n : Nat} {v : Value} (hd : decode cc pc = .ok (.getfield 203, 3)) (ha : fxk w a = some (0, n)) (hv : fxf w 4 a = v) (k : fxR G nL x Q w (pc + 3) ls (v :: st)) : fxR G nL x Q w pc ls (.ref a :: st) := r_get (Cn := RFP) (T := FFP) (N := 7) (ci := 0) (k0 := 4) C hd rfl (by decide) inFP (by decide) lk_FP_203 (Or.inl rfl) ha hv k
theorem lk_FP_206 : Cond.fieldLink "ForkPool" 206 "ForkPool" "nextWorker" "I" ∈ fxTW := fxTW_in 153 (by decide +kernel) rfl
theorem g_FP_206 {G : fxG} {d nL : Nat} {cc : ByteArray} {nm : String} {ret : Option FieldType} {hh : List (Nat × Nat × Nat × Nat)} {x : fxX} {Q : State → Prop} {w : fxW} {pc : Nat} {ls : List (Nat × Value)} {st : List Value} (C : fxC G d cc nL "ForkPool" nm ret hh x) {a n : Nat} {v : Value} (hd : decode cc pc = .ok (.getfield 206, 3)) (ha : fxk w a = some (0, n)) (hv : fxf w 5 a = v) (k : fxR G nL x Q w (pc + 3) ls (v :: st)) : fxR G nL x Q w pc ls (.ref a :: st) := r_get (Cn := RFP) (T := FFP) (N := 7) (ci := 0) (k0 := 5) C hd rfl (by decide) inFP (by decide) lk_FP_206 (Or.inl rfl) ha hv k
theorem lk_FP_215 : Cond.fieldLinkNest "ForkPool" 215 "ForkPool$Job" "row" "LForkPool$Row;" "ForkPool" ∈ fxTW := fxTW_in 352 (by decide +kernel) rfl
theorem g_FP_215 {G : fxG} {d nL : Nat} {cc : ByteArray} {nm : String} {ret : Option FieldType} {hh : List (Nat × Nat × Nat × Nat)} {x : fxX} {Q : State → Prop} {w : fxW} {pc : Nat} {ls : List (Nat × Value)} {st : List Value} (C : fxC G d cc nL "ForkPool" nm ret hh x) {a n : Nat} {v : Value} (hd : decode cc pc = .ok (.getfield 215, 3)) (ha : fxk w a = some (2, n)) (hv : fxf w 130 a = v) (k : fxR G nL x Q w (pc + 3) ls (v :: st)) : fxR G nL x Q w pc ls (.ref a :: st) := r_getN (Cn := RJob) (T := FJob) (N := 10) (ci := 2) (k0 := 2) C hd rfl (by decide) inJob (by decide) lk_FP_215 (Or.inl rfl) ha hv k
theorem lk_FP_247 : Cond.fieldLinkNest "ForkPool" 247 "ForkPool$Task" "second" "LForkPool$Task;" "ForkPool" ∈ fxTW := fxTW_in 406 (by decide +kernel) rfl
theorem g_FP_247 {G : fxG} {d nL : Nat} {cc : ByteArray} {nm : String} {ret : Option FieldType} {hh : List (Nat × Nat × Nat × Nat)} {x : fxX} {Q : State → Prop} {w : fxW} {pc : Nat} {ls : List (Nat × Value)} {st : List Value} (C : fxC G d cc nL "ForkPool" nm ret hh x) {a n : Nat} {v : Value} (hd : decode cc pc = .ok (.getfield 247, 3)) (ha : fxk w a = some (3, n)) (hv : fxf w 197 a = v) (k : fxR G nL x Q w (pc + 3) ls (v :: st)) : fxR G nL x Q w pc ls (.ref a :: st) := r_getN (Cn := RTask) (T := FTask) (N := 9) (ci := 3) (k0 := 5) C hd rfl (by decide) inTask (by decide) lk_FP_247 (Or.inl rfl) ha hv k
theorem lk_FP_251 : Cond.fieldLinkNest "ForkPool" 251 "ForkPool$Task" "first" "LForkPool$Task;" "ForkPool" ∈ fxTW := fxTW_in 403 (by decide +kernel) rfl
theorem g_FP_251 {G : fxG} {d nL : Nat} {cc : ByteArray} {nm : String} {ret : Option FieldType} {hh : List (Nat × Nat × Nat × Nat)} {x : fxX} {Q : State → Prop} {w : fxW} {pc : Nat} {ls : List (Nat × Value)} {st : List Value} (C : fxC G d cc nL "ForkPool" nm ret hh x) {a n : Nat} {v : Value} (hd : decode cc pc = .ok (.getfield 251, 3)) (ha : fxk w a = some (3, n)) (hv : fxf w 196 a = v) (k : fxR G nL x Q w (pc + 3) ls (v :: st)) : fxR G nL x Q w pc ls (.ref a :: st) := r_getN (Cn := RTask) (T := FTask) (N := 9) (ci := 3) (k0 := 4) C hd rfl (by decide) inTask (by decide) lk_FP_251 (Or.inl rfl) ha hv k
theorem lk_FP_261 : Cond.fieldLinkNest "ForkPool" 261 "ForkPool$Job" "inSecondRound" "Z" "ForkPool" ∈ fxTW := fxTW_in 361 (by decide +kernel) rfl
theorem g_FP_261 {G : fxG} {d nL : Nat} {cc : ByteArray} {nm : String} {ret : Option FieldType} {hh : List (Nat × Nat × Nat × Nat)} {x : fxX} {Q : State → Prop} {w : fxW} {pc : Nat} {ls : List (Nat × Value)} {st : List Value} (C : fxC G d cc nL "ForkPool" nm ret hh x) {a n : Nat} {v : Value} (hd : decode cc pc = .ok (.getfield 261, 3)) (ha : fxk w a = some (2, n)) (hv : fxf w 136 a = v) (k : fxR G nL x Q w (pc + 3) ls (v :: st)) : fxR G nL x Q w pc ls (.ref a :: st) := r_getN (Cn := RJob) (T := FJob) (N := 10) (ci := 2) (k0 := 8) C hd rfl (by decide) inJob (by decide) lk_FP_261 (Or.inl rfl) ha hv k
theorem lk_FP_268 : Cond.fieldLinkNest "ForkPool" 268 "ForkPool$Task" "parent" "LForkPool$Task;" "ForkPool" ∈ fxTW := fxTW_in 394 (by decide +kernel) rfl
theorem g_FP_268 {G : fxG} {d nL : Nat} {cc : ByteArray} {nm : String} {ret : Option FieldType} {hh : List (Nat × Nat × Nat × Nat)} {x : fxX} {Q : State → Prop} {w : fxW} {pc : Nat} {ls : List (Nat × Value)} {st : List Value} (C : fxC G d cc nL "ForkPool" nm ret hh x) {a n : Nat} {v : Value} (hd : decode cc pc = .ok (.getfield 268, 3)) (ha : fxk w a = some (3, n)) (hv : fxf w 193 a = v) (k : fxR G nL x Q w (pc + 3) ls (v :: st)) : fxR G nL x Q w pc ls (.ref a :: st) := r_getN (Cn := RTask) (T := FTask) (N := 9) (ci := 3) (k0 := 1) C hd rfl (by decide) inTask (by decide) lk_FP_268 (Or.inl rfl) ha hv k
theorem lk_FP_271 : Cond.fieldLinkNest "ForkPool" 271 "ForkPool$Task" "openParts" "I" "ForkPool" ∈ fxTW := fxTW_in 408 (by decide +kernel) rfl
theorem g_FP_271 {G : fxG} {d nL : Nat} {cc : ByteArray} {nm : String} {ret : Option FieldType} {hh : List (Nat × Nat × Nat × Nat)} {x : fxX} {Q : State → Prop} {w : fxW} {pc : Nat} {ls : List (Nat × Value)} {st : List Value} (C : fxC G d cc nL "ForkPool" nm ret hh x) {a n : Nat} {v : Value} (hd : decode cc pc = .ok (.getfield 271, 3)) (ha : fxk w a = some (3, n)) (hv : fxf w 198 a = v) (k : fxR G nL x Q w (pc + 3) ls (v :: st)) : fxR G nL x Q w pc ls (.ref a :: st) := r_getN (Cn := RTask) (T := FTask) (N := 9) (ci := 3) (k0 := 6) C hd rfl (by decide) inTask (by decide) lk_FP_271 (Or.inl rfl) ha hv k
theorem lk_FP_280 : Cond.fieldLinkNest "ForkPool" 280 "ForkPool$Task" "result" "J" "ForkPool" ∈ fxTW := fxTW_in 411 (by decide +kernel) rfl
theorem g_FP_280 {G : fxG} {d nL : Nat} {cc : ByteArray} {nm : String} {ret : Option FieldType} {hh : List (Nat × Nat × Nat × Nat)} {x : fxX} {Q : State → Prop} {w : fxW} {pc : Nat} {ls : List (Nat × Value)} {st : List Value} (C : fxC G d cc nL "ForkPool" nm ret hh x) {a n : Nat} {v : Value} (hd : decode cc pc = .ok (.getfield 280, 3)) (ha : fxk w a = some (3, n)) (hv : fxf w 199 a = v) (k : fxR G nL x Q w (pc + 3) ls (v :: st)) : fxR G nL x Q w pc ls (.ref a :: st) := r_getN (Cn := RTask) (T := FTask) (N := 9) (ci := 3) (k0 := 7) C hd rfl (by decide) inTask (by decide) lk_FP_280 (Or.inl rfl) ha hv k
theorem o_FP_3 {G : fxG} {d nL : Nat} {cc : ByteArray} {nm : String} {ret : Option FieldType} {hh : List (Nat × Nat × Nat × Nat)} {x : fxX} {Q : State → Prop} {w : fxW} {pc : Nat} {ls : List (Nat × Value)} {st : List Value} (C : fxC G d cc nL "ForkPool" nm ret hh x) {b : Nat} (hd : decode cc pc = .ok (.invokespecial 3, 3)) (h1 : 1 ≤ d) (hst : (st.map fun v => v.category).sum ≤ 8) (k : fxR G nL x Q w (pc + 3) ls st) : fxR G nL x Q w pc ls (.ref b :: st) := r_objInit C hd (fxTW_in 67 (by decide +kernel) rfl) (fxTW_in 68 (by decide +kernel) rfl) (fxTW_in 69 (by decide +kernel) rfl) h1 hst k
theorem lm_FP_15 : Cond.methodLinkNest "ForkPool" 15 y_Row_init "ForkPool" ∈ fxTW := fxTW_in 73 (by decide +kernel) rfl
theorem c_FP_15 {G : fxG} {d nL : Nat} {cc : ByteArray} {nm : String} {ret : Option FieldType} {hh : List (Nat × Nat × Nat × Nat)} {x : fxX} {Q : State → Prop} {w : fxW} {pc : Nat} {ls : List (Nat × Value)} {st : List Value} (C : fxC G d cc nL "ForkPool" nm ret hh x) {b d' : Nat} {P : Outcome → fxW → Prop} (hd : decode cc pc = .ok (.invokespecial 15, 3)) (hM : fxM G d' y_Row_init (.ref b :: []) w P) (hdd : d' < d) (hst : (st.map fun v => v.category).sum ≤ 8) (k1 : ∀ v w', P (.returned v) w' → fxR G nL x Q w' (pc + 3) ls (v.toList ++ st)) (k2 : ∀ a w', P (.threw a) w' → fxRt G nL x Q w' pc ls st a) : fxR G nL x Q w pc ls (.ref b :: st) := r_callIN (As := []) C hd lm_FP_15 rfl (fxTW_in 74 (by decide +kernel) rfl) w_Row_init ini_ForkPool_Row (by decide) np_Row_init (by decide) hM hdd hst rfl k1 k2
theorem lm_FP_31 : Cond.methodLink "ForkPool" 31 y_Wk_init ∈ fxTW := fxTW_in 99 (by decide +kernel) rfl
theorem c_FP_31 {G : fxG} {d nL : Nat} {cc : ByteArray} {nm : String} {ret : Option FieldType} {hh : List (Nat × Nat × Nat × Nat)} {x : fxX} {Q : State → Prop} {w : fxW} {pc : Nat} {ls : List (Nat × Value)} {st : List Value} (C : fxC G d cc nL "ForkPool" nm ret hh x) {b d' : Nat} {a0 : Value} {P : Outcome → fxW → Prop} (hd : decode cc pc = .ok (.invokespecial 31, 3)) (hM : fxM G d' y_Wk_init (.ref b :: [a0]) w P) (hdd : d' < d) (hst : (st.map fun v => v.category).sum ≤ 8) (k1 : ∀ v w', P (.returned v) w' → fxR G nL x Q w' (pc + 3) ls (v.toList ++ st)) (k2 : ∀ a w', P (.threw a) w' → fxRt G nL x Q w' pc ls st a) : fxR G nL x Q w pc ls (a0 :: .ref b :: st) := r_callI (As := [a0]) C hd lm_FP_31 rfl (fxTW_in 100 (by decide +kernel) rfl) w_Wk_init ini_ForkPool_Worker (by decide) np_Wk_init (by decide) hM hdd hst rfl k1 k2
-- callee without code ('M', 'java/lang/IllegalArgumentException', '<init>', '(Ljava/lang/String;)V')
-- callee without code ('M', 'java/lang/IllegalStateException', '<init>', '(Ljava/lang/String;)V')
theorem lm_FP_91 : Cond.methodLink "ForkPool" 91 y_Job_init ∈ fxTW := fxTW_in 342 (by decide +kernel) rfl
theorem c_FP_91 {G : fxG} {d nL : Nat} {cc : ByteArray} {nm : String} {ret : Option FieldType} {hh : List (Nat × Nat × Nat × Nat)} {x : fxX} {Q : State → Prop} {w : fxW} {pc : Nat} {ls : List (Nat × Value)} {st : List Value} (C : fxC G d cc nL "ForkPool" nm ret hh x) {b d' : Nat} {a0 a1 a2 a3 a4 : Value} {P : Outcome → fxW → Prop} (hd : decode cc pc = .ok (.invokespecial 91, 3)) (hM : fxM G d' y_Job_init (.ref b :: [a0, a1, a2, a3, a4]) w P) (hdd : d' < d) (hst : (st.map fun v => v.category).sum ≤ 8) (k1 : ∀ v w', P (.returned v) w' → fxR G nL x Q w' (pc + 3) ls (v.toList ++ st)) (k2 : ∀ a w', P (.threw a) w' → fxRt G nL x Q w' pc ls st a) : fxR G nL x Q w pc ls (a4 :: a3 :: a2 :: a1 :: a0 :: .ref b :: st) := r_callI (As := [a0, a1, a2, a3, a4]) C hd lm_FP_91 rfl (fxTW_in 343 (by decide +kernel) rfl) w_Job_init ini_ForkPool_Job (by decide) np_Job_init (by decide) hM hdd hst rfl k1 k2
theorem lm_FP_99 : Cond.methodLink "ForkPool" 99 y_Task_init ∈ fxTW := fxTW_in 386 (by decide +kernel) rfl
theorem c_FP_99 {G : fxG} {d nL : Nat} {cc : ByteArray} {nm : String} {ret : Option FieldType} {hh : List (Nat × Nat × Nat × Nat)} {x : fxX} {Q : State → Prop} {w : fxW} {pc : Nat} {ls : List (Nat × Value)} {st : List Value} (C : fxC G d cc nL "ForkPool" nm ret hh x) {b d' : Nat} {a0 a1 a2 a3 : Value} {P : Outcome → fxW → Prop} (hd : decode cc pc = .ok (.invokespecial 99, 3)) (hM : fxM G d' y_Task_init (.ref b :: [a0, a1, a2, a3]) w P) (hdd : d' < d) (hst : (st.map fun v => v.category).sum ≤ 8) (k1 : ∀ v w', P (.returned v) w' → fxR G nL x Q w' (pc + 3) ls (v.toList ++ st)) (k2 : ∀ a w', P (.threw a) w' → fxRt G nL x Q w' pc ls st a) : fxR G nL x Q w pc ls (a3 :: a2 :: a1 :: a0 :: .ref b :: st) := r_callI (As := [a0, a1, a2, a3]) C hd lm_FP_99 rfl (fxTW_in 387 (by decide +kernel) rfl) w_Task_init ini_ForkPool_Task (by decide) np_Task_init (by decide) hM hdd hst rfl k1 k2
-- callee without code ('M', 'java/lang/ArithmeticException', '<init>', '(Ljava/lang/String;)V')
-- callee without code ('M', 'java/lang/UnsupportedOperationException', '<init>', '(Ljava/lang/String;)V')
-- callee without code ('M', 'java/util/NoSuchElementException', '<init>', '(Ljava/lang/String;)V')
theorem lm_FP_16 : Cond.methodLink "ForkPool" 16 y_Ma_minI ∈ fxTW := fxTW_in 90 (by decide +kernel) rfl
theorem c_FP_16 {G : fxG} {d nL : Nat} {cc : ByteArray} {nm : String} {ret : Option FieldType} {hh : List (Nat × Nat × Nat × Nat)} {x : fxX} {Q : State → Prop} {w : fxW} {pc : Nat} {ls : List (Nat × Value)} {st : List Value} (C : fxC G d cc nL "ForkPool" nm ret hh x) {d' : Nat} {a0 a1 : Value} {P : Outcome → fxW → Prop} (hd : decode cc pc = .ok (.invokestatic 16, 3)) (hM : fxM G d' y_Ma_minI [a0, a1] w P) (hdd : d' < d) (hst : (st.map fun v => v.category).sum ≤ 8) (k1 : ∀ v w', P (.returned v) w' → fxR G nL x Q w' (pc + 3) ls (v.toList ++ st)) (k2 : ∀ a w', P (.threw a) w' → fxRt G nL x Q w' pc ls st a) : fxR G nL x Q w pc ls (a1 :: a0 :: st) := r_callS (As := [a0, a1]) C hd lm_FP_16 (fxTW_in 91 (by decide +kernel) rfl) w_Ma_minI ini_java_lang_Math (by decide) np_Ma_minI (by decide) hM hdd hst rfl k1 k2
theorem lm_FP_22 : Cond.methodLink "ForkPool" 22 y_Ma_maxI ∈ fxTW := fxTW_in 93 (by decide +kernel) rfl
theorem c_FP_22 {G : fxG} {d nL : Nat} {cc : ByteArray} {nm : String} {ret : Option FieldType} {hh : List (Nat × Nat × Nat × Nat)} {x : fxX} {Q : State → Prop} {w : fxW} {pc : Nat} {ls : List (Nat × Value)} {st : List Value} (C : fxC G d cc nL "ForkPool" nm ret hh x) {d' : Nat} {a0 a1 : Value} {P : Outcome → fxW → Prop} (hd : decode cc pc = .ok (.invokestatic 22, 3)) (hM : fxM G d' y_Ma_maxI [a0, a1] w P) (hdd : d' < d) (hst : (st.map fun v => v.category).sum ≤ 8) (k1 : ∀ v w', P (.returned v) w' → fxR G nL x Q w' (pc + 3) ls (v.toList ++ st)) (k2 : ∀ a w', P (.threw a) w' → fxRt G nL x Q w' pc ls st a) : fxR G nL x Q w pc ls (a1 :: a0 :: st) := r_callS (As := [a0, a1]) C hd lm_FP_22 (fxTW_in 94 (by decide +kernel) rfl) w_Ma_maxI ini_java_lang_Math (by decide) np_Ma_maxI (by decide) hM hdd hst rfl k1 k2
theorem lm_FP_44 : Cond.methodLink "ForkPool" 44 y_FP_isWithin ∈ fxTW := fxTW_in 182 (by decide +kernel) rfl
theorem c_FP_44 {G : fxG} {d nL : Nat} {cc : ByteArray} {nm : String} {ret : Option FieldType} {hh : List (Nat × Nat × Nat × Nat)} {x : fxX} {Q : State → Prop} {w : fxW} {pc : Nat} {ls : List (Nat × Value)} {st : List Value} (C : fxC G d cc nL "ForkPool" nm ret hh x) {d' : Nat} {a0 a1 a2 : Value} {P : Outcome → fxW → Prop} (hd : decode cc pc = .ok (.invokestatic 44, 3)) (hM : fxM G d' y_FP_isWithin [a0, a1, a2] w P) (hdd : d' < d) (hst : (st.map fun v => v.category).sum ≤ 8) (k1 : ∀ v w', P (.returned v) w' → fxR G nL x Q w' (pc + 3) ls (v.toList ++ st)) (k2 : ∀ a w', P (.threw a) w' → fxRt G nL x Q w' pc ls st a) : fxR G nL x Q w pc ls (a2 :: a1 :: a0 :: st) := r_callS (As := [a0, a1, a2]) C hd lm_FP_44 (fxTW_in 183 (by decide +kernel) rfl) w_FP_isWithin ini_ForkPool (by decide) np_FP_isWithin (by decide) hM hdd hst rfl k1 k2
theorem lm_FP_55 : Cond.methodLink "ForkPool" 55 y_FP_refuseIfBusy ∈ fxTW := fxTW_in 255 (by decide +kernel) rfl
theorem c_FP_55 {G : fxG} {d nL : Nat} {cc : ByteArray} {nm : String} {ret : Option FieldType} {hh : List (Nat × Nat × Nat × Nat)} {x : fxX} {Q : State → Prop} {w : fxW} {pc : Nat} {ls : List (Nat × Value)} {st : List Value} (C : fxC G d cc nL "ForkPool" nm ret hh x) {b n0 d' : Nat} {a0 : Value} {P : Outcome → fxW → Prop} (hd : decode cc pc = .ok (.invokevirtual 55, 3)) (hb9 : fxk w b = some (0, n0)) (hM : fxM G d' y_FP_refuseIfBusy (.ref b :: [a0]) w P) (hdd : d' < d) (hst : (st.map fun v => v.category).sum ≤ 8) (k1 : ∀ v w', P (.returned v) w' → fxR G nL x Q w' (pc + 3) ls (v.toList ++ st)) (k2 : ∀ a w', P (.threw a) w' → fxRt G nL x Q w' pc ls st a) : fxR G nL x Q w pc ls (a0 :: .ref b :: st) := r_callV (As := [a0]) (Cn := "ForkPool") (ci := 0) C hd lm_FP_55 (fxTW_in 257 (by decide +kernel) rfl) (fxTW_in 1 (by decide +kernel) rfl) w_FP_refuseIfBusy ini_ForkPool (by decide) np_FP_refuseIfBusy (by decide) (by decide) rfl hb9 hM hdd hst rfl k1 k2
theorem lm_FP_59 : Cond.methodLink "ForkPool" 59 y_Row_make ∈ fxTW := fxTW_in 275 (by decide +kernel) rfl
theorem c_FP_59 {G : fxG} {d nL : Nat} {cc : ByteArray} {nm : String} {ret : Option FieldType} {hh : List (Nat × Nat × Nat × Nat)} {x : fxX} {Q : State → Prop} {w : fxW} {pc : Nat} {ls : List (Nat × Value)} {st : List Value} (C : fxC G d cc nL "ForkPool" nm ret hh x) {b n0 d' : Nat} {a0 a1 : Value} {P : Outcome → fxW → Prop} (hd : decode cc pc = .ok (.invokevirtual 59, 3)) (hb9 : fxk w b = some (1, n0)) (hM : fxM G d' y_Row_make (.ref b :: [a0, a1]) w P) (hdd : d' < d) (hst : (st.map fun v => v.category).sum ≤ 8) (k1 : ∀ v w', P (.returned v) w' → fxR G nL x Q w' (pc + 3) ls (v.toList ++ st)) (k2 : ∀ a w', P (.threw a) w' → fxRt G nL x Q w' pc ls st a) : fxR G nL x Q w pc ls (a1 :: a0 :: .ref b :: st) := r_callV (As := [a0, a1]) (Cn := "ForkPool$Row") (ci := 1) C hd lm_FP_59 (fxTW_in 276 (by decide +kernel) rfl) (fxTW_in 277 (by decide +kernel) rfl) w_Row_make ini_ForkPool_Row (by decide) np_Row_make (by decide) (by decide) rfl hb9 hM hdd hst rfl k1 k2
theorem lm_FP_63 : Cond.methodLink "ForkPool" 63 y_FP_rowWith ∈ fxTW := fxTW_in 287 (by decide +kernel) rfl
theorem c_FP_63 {G : fxG} {d nL : Nat} {cc : ByteArray} {nm : String} {ret : Option FieldType} {hh : List (Nat × Nat × Nat × Nat)} {x : fxX} {Q : State → Prop} {w : fxW} {pc : Nat} {ls : List (Nat × Value)} {st : List Value} (C : fxC G d cc nL "ForkPool" nm ret hh x) {b n0 d' : Nat} {a0 a1 : Value} {P : Outcome → fxW → Prop} (hd : decode cc pc = .ok (.invokevirtual 63, 3)) (hb9 : fxk w b = some (0, n0)) (hM : fxM G d' y_FP_rowWith (.ref b :: [a0, a1]) w P) (hdd : d' < d) (hst : (st.map fun v => v.category).sum ≤ 8) (k1 : ∀ v w', P (.returned v) w' → fxR G nL x Q w' (pc + 3) ls (v.toList ++ st)) (k2 : ∀ a w', P (.threw a) w' → fxRt G nL x Q w' pc ls st a) : fxR G nL x Q w pc ls (a1 :: a0 :: .ref b :: st) := r_callV (As := [a0, a1]) (Cn := "ForkPool") (ci := 0) C hd lm_FP_63 (fxTW_in 289 (by decide +kernel) rfl) (fxTW_in 2 (by decide +kernel) rfl) w_FP_rowWith ini_ForkPool (by decide) np_FP_rowWith (by decide) (by decide) rfl hb9 hM hdd hst rfl k1 k2
theorem lm_FP_71 : Cond.methodLink "ForkPool" 71 y_Row_kept ∈ fxTW := fxTW_in 312 (by decide +kernel) rfl
theorem c_FP_71 {G : fxG} {d nL : Nat} {cc : ByteArray} {nm : String} {ret : Option FieldType} {hh : List (Nat × Nat × Nat × Nat)} {x : fxX} {Q : State → Prop} {w : fxW} {pc : Nat} {ls : List (Nat × Value)} {st : List Value} (C : fxC G d cc nL "ForkPool" nm ret hh x) {b n0 d' : Nat} {a0 : Value} {P : Outcome → fxW → Prop} (hd : decode cc pc = .ok (.invokevirtual 71, 3)) (hb9 : fxk w b = some (1, n0)) (hM : fxM G d' y_Row_kept (.ref b :: [a0]) w P) (hdd : d' < d) (hst : (st.map fun v => v.category).sum ≤ 8) (k1 : ∀ v w', P (.returned v) w' → fxR G nL x Q w' (pc + 3) ls (v.toList ++ st)) (k2 : ∀ a w', P (.threw a) w' → fxRt G nL x Q w' pc ls st a) : fxR G nL x Q w pc ls (a0 :: .ref b :: st) := r_callV (As := [a0]) (Cn := "ForkPool$Row") (ci := 1) C hd lm_FP_71 (fxTW_in 313 (by decide +kernel) rfl) (fxTW_in 314 (by decide +kernel) rfl) w_Row_kept ini_ForkPool_Row (by decide) np_Row_kept (by decide) (by decide) rfl hb9 hM hdd hst rfl k1 k2
theorem lm_FP_75 : Cond.methodLink "ForkPool" 75 y_FP_madeRow ∈ fxTW := fxTW_in 291 (by decide +kernel) rfl
theorem c_FP_75 {G : fxG} {d nL : Nat} {cc : ByteArray} {nm : String} {ret : Option FieldType} {hh : List (Nat × Nat × Nat × Nat)} {x : fxX} {Q : State → Prop} {w : fxW} {pc : Nat} {ls : List (Nat × Value)} {st : List Value} (C : fxC G d cc nL "ForkPool" nm ret hh x) {b n0 d' : Nat} {a0 : Value} {P : Outcome → fxW → Prop} (hd : decode cc pc = .ok (.invokevirtual 75, 3)) (hb9 : fxk w b = some (0, n0)) (hM : fxM G d' y_FP_madeRow (.ref b :: [a0]) w P) (hdd : d' < d) (hst : (st.map fun v => v.category).sum ≤ 8) (k1 : ∀ v w', P (.returned v) w' → fxR G nL x Q w' (pc + 3) ls (v.toList ++ st)) (k2 : ∀ a w', P (.threw a) w' → fxRt G nL x Q w' pc ls st a) : fxR G nL x Q w pc ls (a0 :: .ref b :: st) := r_callV (As := [a0]) (Cn := "ForkPool") (ci := 0) C hd lm_FP_75 (fxTW_in 293 (by decide +kernel) rfl) (fxTW_in 3 (by decide +kernel) rfl) w_FP_madeRow ini_ForkPool (by decide) np_FP_madeRow (by decide) (by decide) rfl hb9 hM hdd hst rfl k1 k2
theorem lm_FP_102 : Cond.methodLink "ForkPool" 102 y_Wk_putOnTop ∈ fxTW := fxTW_in 433 (by decide +kernel) rfl
theorem c_FP_102 {G : fxG} {d nL : Nat} {cc : ByteArray} {nm : String} {ret : Option FieldType} {hh : List (Nat × Nat × Nat × Nat)} {x : fxX} {Q : State → Prop} {w : fxW} {pc : Nat} {ls : List (Nat × Value)} {st : List Value} (C : fxC G d cc nL "ForkPool" nm ret hh x) {b n0 d' : Nat} {a0 : Value} {P : Outcome → fxW → Prop} (hd : decode cc pc = .ok (.invokevirtual 102, 3)) (hb9 : fxk w b = some (4, n0)) (hM : fxM G d' y_Wk_putOnTop (.ref b :: [a0]) w P) (hdd : d' < d) (hst : (st.map fun v => v.category).sum ≤ 8) (k1 : ∀ v w', P (.returned v) w' → fxR G nL x Q w' (pc + 3) ls (v.toList ++ st)) (k2 : ∀ a w', P (.threw a) w' → fxRt G nL x Q w' pc ls st a) : fxR G nL x Q w pc ls (a0 :: .ref b :: st) := r_callV (As := [a0]) (Cn := "ForkPool$Worker") (ci := 4) C hd lm_FP_102 (fxTW_in 434 (by decide +kernel) rfl) (fxTW_in 435 (by decide +kernel) rfl) w_Wk_putOnTop ini_ForkPool_Worker (by decide) np_Wk_putOnTop (by decide) (by decide) rfl hb9 hM hdd hst rfl k1 k2
theorem lm_FP_111 : Cond.methodLink "ForkPool" 111 y_FP_makeStep ∈ fxTW := fxTW_in 500 (by decide +kernel) rfl
theorem c_FP_111 {G : fxG} {d nL : Nat} {cc : ByteArray} {nm : String} {ret : Option FieldType} {hh : List (Nat × Nat × Nat × Nat)} {x : fxX} {Q : State → Prop} {w : fxW} {pc : Nat} {ls : List (Nat × Value)} {st : List Value} (C : fxC G d cc nL "ForkPool" nm ret hh x) {b n0 d' : Nat} {P : Outcome → fxW → Prop} (hd : decode cc pc = .ok (.invokevirtual 111, 3)) (hb9 : fxk w b = some (0, n0)) (hM : fxM G d' y_FP_makeStep (.ref b :: []) w P) (hdd : d' < d) (hst : (st.map fun v => v.category).sum ≤ 8) (k1 : ∀ v w', P (.returned v) w' → fxR G nL x Q w' (pc + 3) ls (v.toList ++ st)) (k2 : ∀ a w', P (.threw a) w' → fxRt G nL x Q w' pc ls st a) : fxR G nL x Q w pc ls (.ref b :: st) := r_callV (As := []) (Cn := "ForkPool") (ci := 0) C hd lm_FP_111 (fxTW_in 502 (by decide +kernel) rfl) (fxTW_in 7 (by decide +kernel) rfl) w_FP_makeStep ini_ForkPool (by decide) np_FP_makeStep (by decide) (by decide) rfl hb9 hM hdd hst rfl k1 k2
theorem lm_FP_115 : Cond.methodLink "ForkPool" 115 y_FP_begunJob ∈ fxTW := fxTW_in 636 (by decide +kernel) rfl
theorem c_FP_115 {G : fxG} {d nL : Nat} {cc : ByteArray} {nm : String} {ret : Option FieldType} {hh : List (Nat × Nat × Nat × Nat)} {x : fxX} {Q : State → Prop} {w : fxW} {pc : Nat} {ls : List (Nat × Value)} {st : List Value} (C : fxC G d cc nL "ForkPool" nm ret hh x) {b n0 d' : Nat} {a0 : Value} {P : Outcome → fxW → Prop} (hd : decode cc pc = .ok (.invokevirtual 115, 3)) (hb9 : fxk w b = some (0, n0)) (hM : fxM G d' y_FP_begunJob (.ref b :: [a0]) w P) (hdd : d' < d) (hst : (st.map fun v => v.category).sum ≤ 8) (k1 : ∀ v w', P (.returned v) w' → fxR G nL x Q w' (pc + 3) ls (v.toList ++ st)) (k2 : ∀ a w', P (.threw a) w' → fxRt G nL x Q w' pc ls st a) : fxR G nL x Q w pc ls (a0 :: .ref b :: st) := r_callV (As := [a0]) (Cn := "ForkPool") (ci := 0) C hd lm_FP_115 (fxTW_in 638 (by decide +kernel) rfl) (fxTW_in 15 (by decide +kernel) rfl) w_FP_begunJob ini_ForkPool (by decide) np_FP_begunJob (by decide) (by decide) rfl hb9 hM hdd hst rfl k1 k2
theorem lm_FP_144 : Cond.methodLink "ForkPool" 144 y_FP_queuedTasks ∈ fxTW := fxTW_in 691 (by decide +kernel) rfl
theorem c_FP_144 {G : fxG} {d nL : Nat} {cc : ByteArray} {nm : String} {ret : Option FieldType} {hh : List (Nat × Nat × Nat × Nat)} {x : fxX} {Q : State → Prop} {w : fxW} {pc : Nat} {ls : List (Nat × Value)} {st : List Value} (C : fxC G d cc nL "ForkPool" nm ret hh x) {b n0 d' : Nat} {a0 : Value} {P : Outcome → fxW → Prop} (hd : decode cc pc = .ok (.invokevirtual 144, 3)) (hb9 : fxk w b = some (0, n0)) (hM : fxM G d' y_FP_queuedTasks (.ref b :: [a0]) w P) (hdd : d' < d) (hst : (st.map fun v => v.category).sum ≤ 8) (k1 : ∀ v w', P (.returned v) w' → fxR G nL x Q w' (pc + 3) ls (v.toList ++ st)) (k2 : ∀ a w', P (.threw a) w' → fxRt G nL x Q w' pc ls st a) : fxR G nL x Q w pc ls (a0 :: .ref b :: st) := r_callV (As := [a0]) (Cn := "ForkPool") (ci := 0) C hd lm_FP_144 (fxTW_in 693 (by decide +kernel) rfl) (fxTW_in 16 (by decide +kernel) rfl) w_FP_queuedTasks ini_ForkPool (by decide) np_FP_queuedTasks (by decide) (by decide) rfl hb9 hM hdd hst rfl k1 k2
theorem lm_FP_148 : Cond.methodLink "ForkPool" 148 y_FP_fail ∈ fxTW := fxTW_in 604 (by decide +kernel) rfl
theorem c_FP_148 {G : fxG} {d nL : Nat} {cc : ByteArray} {nm : String} {ret : Option FieldType} {hh : List (Nat × Nat × Nat × Nat)} {x : fxX} {Q : State → Prop} {w : fxW} {pc : Nat} {ls : List (Nat × Value)} {st : List Value} (C : fxC G d cc nL "ForkPool" nm ret hh x) {b n0 d' : Nat} {a0 a1 : Value} {P : Outcome → fxW → Prop} (hd : decode cc pc = .ok (.invokevirtual 148, 3)) (hb9 : fxk w b = some (0, n0)) (hM : fxM G d' y_FP_fail (.ref b :: [a0, a1]) w P) (hdd : d' < d) (hst : (st.map fun v => v.category).sum ≤ 8) (k1 : ∀ v w', P (.returned v) w' → fxR G nL x Q w' (pc + 3) ls (v.toList ++ st)) (k2 : ∀ a w', P (.threw a) w' → fxRt G nL x Q w' pc ls st a) : fxR G nL x Q w pc ls (a1 :: a0 :: .ref b :: st) := r_callV (As := [a0, a1]) (Cn := "ForkPool") (ci := 0) C hd lm_FP_148 (fxTW_in 606 (by decide +kernel) rfl) (fxTW_in 13 (by decide +kernel) rfl) w_FP_fail ini_ForkPool (by decide) np_FP_fail (by decide) (by decide) rfl hb9 hM hdd hst rfl k1 k2
theorem lm_FP_160 : Cond.methodLink "ForkPool" 160 y_FP_workerAt ∈ fxTW := fxTW_in 714 (by decide +kernel) rfl
theorem c_FP_160 {G : fxG} {d nL : Nat} {cc : ByteArray} {nm : String} {ret : Option FieldType} {hh : List (Nat × Nat × Nat × Nat)} {x : fxX} {Q : State → Prop} {w : fxW} {pc : Nat} {ls : List (Nat × Value)} {st : List Value} (C : fxC G d cc nL "ForkPool" nm ret hh x) {b n0 d' : Nat} {a0 : Value} {P : Outcome → fxW → Prop} (hd : decode cc pc = .ok (.invokevirtual 160, 3)) (hb9 : fxk w b = some (0, n0)) (hM : fxM G d' y_FP_workerAt (.ref b :: [a0]) w P) (hdd : d' < d) (hst : (st.map fun v => v.category).sum ≤ 8) (k1 : ∀ v w', P (.returned v) w' → fxR G nL x Q w' (pc + 3) ls (v.toList ++ st)) (k2 : ∀ a w', P (.threw a) w' → fxRt G nL x Q w' pc ls st a) : fxR G nL x Q w pc ls (a0 :: .ref b :: st) := r_callV (As := [a0]) (Cn := "ForkPool") (ci := 0) C hd lm_FP_160 (fxTW_in 716 (by decide +kernel) rfl) (fxTW_in 17 (by decide +kernel) rfl) w_FP_workerAt ini_ForkPool (by decide) np_FP_workerAt (by decide) (by decide) rfl hb9 hM hdd hst rfl k1 k2
theorem lm_FP_164 : Cond.methodLink "ForkPool" 164 y_Wk_queueLength ∈ fxTW := fxTW_in 504 (by decide +kernel) rfl
theorem c_FP_164 {G : fxG} {d nL : Nat} {cc : ByteArray} {nm : String} {ret : Option FieldType} {hh : List (Nat × Nat × Nat × Nat)} {x : fxX} {Q : State → Prop} {w : fxW} {pc : Nat} {ls : List (Nat × Value)} {st : List Value} (C : fxC G d cc nL "ForkPool" nm ret hh x) {b n0 d' : Nat} {P : Outcome → fxW → Prop} (hd : decode cc pc = .ok (.invokevirtual 164, 3)) (hb9 : fxk w b = some (4, n0)) (hM : fxM G d' y_Wk_queueLength (.ref b :: []) w P) (hdd : d' < d) (hst : (st.map fun v => v.category).sum ≤ 8) (k1 : ∀ v w', P (.returned v) w' → fxR G nL x Q w' (pc + 3) ls (v.toList ++ st)) (k2 : ∀ a w', P (.threw a) w' → fxRt G nL x Q w' pc ls st a) : fxR G nL x Q w pc ls (.ref b :: st) := r_callV (As := []) (Cn := "ForkPool$Worker") (ci := 4) C hd lm_FP_164 (fxTW_in 505 (by decide +kernel) rfl) (fxTW_in 506 (by decide +kernel) rfl) w_Wk_queueLength ini_ForkPool_Worker (by decide) np_Wk_queueLength (by decide) (by decide) rfl hb9 hM hdd hst rfl k1 k2
theorem lm_FP_173 : Cond.methodLink "ForkPool" 173 y_Wk_fromTop ∈ fxTW := fxTW_in 720 (by decide +kernel) rfl
theorem c_FP_173 {G : fxG} {d nL : Nat} {cc : ByteArray} {nm : String} {ret : Option FieldType} {hh : List (Nat × Nat × Nat × Nat)} {x : fxX} {Q : State → Prop} {w : fxW} {pc : Nat} {ls : List (Nat × Value)} {st : List Value} (C : fxC G d cc nL "ForkPool" nm ret hh x) {b n0 d' : Nat} {a0 : Value} {P : Outcome → fxW → Prop} (hd : decode cc pc = .ok (.invokevirtual 173, 3)) (hb9 : fxk w b = some (4, n0)) (hM : fxM G d' y_Wk_fromTop (.ref b :: [a0]) w P) (hdd : d' < d) (hst : (st.map fun v => v.category).sum ≤ 8) (k1 : ∀ v w', P (.returned v) w' → fxR G nL x Q w' (pc + 3) ls (v.toList ++ st)) (k2 : ∀ a w', P (.threw a) w' → fxRt G nL x Q w' pc ls st a) : fxR G nL x Q w pc ls (a0 :: .ref b :: st) := r_callV (As := [a0]) (Cn := "ForkPool$Worker") (ci := 4) C hd lm_FP_173 (fxTW_in 721 (by decide +kernel) rfl) (fxTW_in 722 (by decide +kernel) rfl) w_Wk_fromTop ini_ForkPool_Worker (by decide) np_Wk_fromTop (by decide) (by decide) rfl hb9 hM hdd hst rfl k1 k2
theorem lm_FP_225 : Cond.methodLink "ForkPool" 225 y_Wk_takeTop ∈ fxTW := fxTW_in 512 (by decide +kernel) rfl
theorem c_FP_225 {G : fxG} {d nL : Nat} {cc : ByteArray} {nm : String} {ret : Option FieldType} {hh : List (Nat × Nat × Nat × Nat)} {x : fxX} {Q : State → Prop} {w : fxW} {pc : Nat} {ls : List (Nat × Value)} {st : List Value} (C : fxC G d cc nL "ForkPool" nm ret hh x) {b n0 d' : Nat} {P : Outcome → fxW → Prop} (hd : decode cc pc = .ok (.invokevirtual 225, 3)) (hb9 : fxk w b = some (4, n0)) (hM : fxM G d' y_Wk_takeTop (.ref b :: []) w P) (hdd : d' < d) (hst : (st.map fun v => v.category).sum ≤ 8) (k1 : ∀ v w', P (.returned v) w' → fxR G nL x Q w' (pc + 3) ls (v.toList ++ st)) (k2 : ∀ a w', P (.threw a) w' → fxRt G nL x Q w' pc ls st a) : fxR G nL x Q w pc ls (.ref b :: st) := r_callV (As := []) (Cn := "ForkPool$Worker") (ci := 4) C hd lm_FP_225 (fxTW_in 513 (by decide +kernel) rfl) (fxTW_in 514 (by decide +kernel) rfl) w_Wk_takeTop ini_ForkPool_Worker (by decide) np_Wk_takeTop (by decide) (by decide) rfl hb9 hM hdd hst rfl k1 k2
theorem lm_FP_229 : Cond.methodLink "ForkPool" 229 y_FP_perform ∈ fxTW := fxTW_in 532 (by decide +kernel) rfl
theorem c_FP_229 {G : fxG} {d nL : Nat} {cc : ByteArray} {nm : String} {ret : Option FieldType} {hh : List (Nat × Nat × Nat × Nat)} {x : fxX} {Q : State → Prop} {w : fxW} {pc : Nat} {ls : List (Nat × Value)} {st : List Value} (C : fxC G d cc nL "ForkPool" nm ret hh x) {b n0 d' : Nat} {a0 a1 : Value} {P : Outcome → fxW → Prop} (hd : decode cc pc = .ok (.invokevirtual 229, 3)) (hb9 : fxk w b = some (0, n0)) (hM : fxM G d' y_FP_perform (.ref b :: [a0, a1]) w P) (hdd : d' < d) (hst : (st.map fun v => v.category).sum ≤ 8) (k1 : ∀ v w', P (.returned v) w' → fxR G nL x Q w' (pc + 3) ls (v.toList ++ st)) (k2 : ∀ a w', P (.threw a) w' → fxRt G nL x Q w' pc ls st a) : fxR G nL x Q w pc ls (a1 :: a0 :: .ref b :: st) := r_callV (As := [a0, a1]) (Cn := "ForkPool") (ci := 0) C hd lm_FP_229 (fxTW_in 534 (by decide +kernel) rfl) (fxTW_in 9 (by decide +kernel) rfl) w_FP_perform ini_ForkPool (by decide) np_FP_perform (by decide) (by decide) rfl hb9 hM hdd hst rfl k1 k2
theorem lm_FP_233 : Cond.methodLink "ForkPool" 233 y_FP_findVictim ∈ fxTW := fxTW_in 620 (by decide +kernel) rfl
theorem c_FP_233 {G : fxG} {d nL : Nat} {cc : ByteArray} {nm : String} {ret : Option FieldType} {hh : List (Nat × Nat × Nat × Nat)} {x : fxX} {Q : State → Prop} {w : fxW} {pc : Nat} {ls : List (Nat × Value)} {st : List Value} (C : fxC G d cc nL "ForkPool" nm ret hh x) {b n0 d' : Nat} {a0 : Value} {P : Outcome → fxW → Prop} (hd : decode cc pc = .ok (.invokevirtual 233, 3)) (hb9 : fxk w b = some (0, n0)) (hM : fxM G d' y_FP_findVictim (.ref b :: [a0]) w P) (hdd : d' < d) (hst : (st.map fun v => v.category).sum ≤ 8) (k1 : ∀ v w', P (.returned v) w' → fxR G nL x Q w' (pc + 3) ls (v.toList ++ st)) (k2 : ∀ a w', P (.threw a) w' → fxRt G nL x Q w' pc ls st a) : fxR G nL x Q w pc ls (a0 :: .ref b :: st) := r_callV (As := [a0]) (Cn := "ForkPool") (ci := 0) C hd lm_FP_233 (fxTW_in 622 (by decide +kernel) rfl) (fxTW_in 14 (by decide +kernel) rfl) w_FP_findVictim ini_ForkPool (by decide) np_FP_findVictim (by decide) (by decide) rfl hb9 hM hdd hst rfl k1 k2
theorem lm_FP_237 : Cond.methodLink "ForkPool" 237 y_Wk_takeBottom ∈ fxTW := fxTW_in 624 (by decide +kernel) rfl
theorem c_FP_237 {G : fxG} {d nL : Nat} {cc : ByteArray} {nm : String} {ret : Option FieldType} {hh : List (Nat × Nat × Nat × Nat)} {x : fxX} {Q : State → Prop} {w : fxW} {pc : Nat} {ls : List (Nat × Value)} {st : List Value} (C : fxC G d cc nL "ForkPool" nm ret hh x) {b n0 d' : Nat} {P : Outcome → fxW → Prop} (hd : decode cc pc = .ok (.invokevirtual 237, 3)) (hb9 : fxk w b = some (4, n0)) (hM : fxM G d' y_Wk_takeBottom (.ref b :: []) w P) (hdd : d' < d) (hst : (st.map fun v => v.category).sum ≤ 8) (k1 : ∀ v w', P (.returned v) w' → fxR G nL x Q w' (pc + 3) ls (v.toList ++ st)) (k2 : ∀ a w', P (.threw a) w' → fxRt G nL x Q w' pc ls st a) : fxR G nL x Q w pc ls (.ref b :: st) := r_callV (As := []) (Cn := "ForkPool$Worker") (ci := 4) C hd lm_FP_237 (fxTW_in 625 (by decide +kernel) rfl) (fxTW_in 626 (by decide +kernel) rfl) w_Wk_takeBottom ini_ForkPool_Worker (by decide) np_Wk_takeBottom (by decide) (by decide) rfl hb9 hM hdd hst rfl k1 k2
theorem lm_FP_240 : Cond.methodLink "ForkPool" 240 y_FP_mustFork ∈ fxTW := fxTW_in 536 (by decide +kernel) rfl
theorem c_FP_240 {G : fxG} {d nL : Nat} {cc : ByteArray} {nm : String} {ret : Option FieldType} {hh : List (Nat × Nat × Nat × Nat)} {x : fxX} {Q : State → Prop} {w : fxW} {pc : Nat} {ls : List (Nat × Value)} {st : List Value} (C : fxC G d cc nL "ForkPool" nm ret hh x) {b n0 d' : Nat} {a0 : Value} {P : Outcome → fxW → Prop} (hd : decode cc pc = .ok (.invokevirtual 240, 3)) (hb9 : fxk w b = some (0, n0)) (hM : fxM G d' y_FP_mustFork (.ref b :: [a0]) w P) (hdd : d' < d) (hst : (st.map fun v => v.category).sum ≤ 8) (k1 : ∀ v w', P (.returned v) w' → fxR G nL x Q w' (pc + 3) ls (v.toList ++ st)) (k2 : ∀ a w', P (.threw a) w' → fxRt G nL x Q w' pc ls st a) : fxR G nL x Q w pc ls (a0 :: .ref b :: st) := r_callV (As := [a0]) (Cn := "ForkPool") (ci := 0) C hd lm_FP_240 (fxTW_in 538 (by decide +kernel) rfl) (fxTW_in 10 (by decide +kernel) rfl) w_FP_mustFork ini_ForkPool (by decide) np_FP_mustFork (by decide) (by decide) rfl hb9 hM hdd hst rfl k1 k2
theorem lm_FP_244 : Cond.methodLink "ForkPool" 244 y_Task_fork ∈ fxTW := fxTW_in 544 (by decide +kernel) rfl
theorem c_FP_244 {G : fxG} {d nL : Nat} {cc : ByteArray} {nm : String} {ret : Option FieldType} {hh : List (Nat × Nat × Nat × Nat)} {x : fxX} {Q : State → Prop} {w : fxW} {pc : Nat} {ls : List (Nat × Value)} {st : List Value} (C : fxC G d cc nL "ForkPool" nm ret hh x) {b n0 d' : Nat} {P : Outcome → fxW → Prop} (hd : decode cc pc = .ok (.invokevirtual 244, 3)) (hb9 : fxk w b = some (3, n0)) (hM : fxM G d' y_Task_fork (.ref b :: []) w P) (hdd : d' < d) (hst : (st.map fun v => v.category).sum ≤ 8) (k1 : ∀ v w', P (.returned v) w' → fxR G nL x Q w' (pc + 3) ls (v.toList ++ st)) (k2 : ∀ a w', P (.threw a) w' → fxRt G nL x Q w' pc ls st a) : fxR G nL x Q w pc ls (.ref b :: st) := r_callV (As := []) (Cn := "ForkPool$Task") (ci := 3) C hd lm_FP_244 (fxTW_in 545 (by decide +kernel) rfl) (fxTW_in 546 (by decide +kernel) rfl) w_Task_fork ini_ForkPool_Task (by decide) np_Task_fork (by decide) (by decide) rfl hb9 hM hdd hst rfl k1 k2
theorem lm_FP_254 : Cond.methodLink "ForkPool" 254 y_Job_doLeaf ∈ fxTW := fxTW_in 552 (by decide +kernel) rfl
theorem c_FP_254 {G : fxG} {d nL : Nat} {cc : ByteArray} {nm : String} {ret : Option FieldType} {hh : List (Nat × Nat × Nat × Nat)} {x : fxX} {Q : State → Prop} {w : fxW} {pc : Nat} {ls : List (Nat × Value)} {st : List Value} (C : fxC G d cc nL "ForkPool" nm ret hh x) {b n0 d' : Nat} {a0 : Value} {P : Outcome → fxW → Prop} (hd : decode cc pc = .ok (.invokevirtual 254, 3)) (hb9 : fxk w b = some (2, n0)) (hM : fxM G d' y_Job_doLeaf (.ref b :: [a0]) w P) (hdd : d' < d) (hst : (st.map fun v => v.category).sum ≤ 8) (k1 : ∀ v w', P (.returned v) w' → fxR G nL x Q w' (pc + 3) ls (v.toList ++ st)) (k2 : ∀ a w', P (.threw a) w' → fxRt G nL x Q w' pc ls st a) : fxR G nL x Q w pc ls (a0 :: .ref b :: st) := r_callV (As := [a0]) (Cn := "ForkPool$Job") (ci := 2) C hd lm_FP_254 (fxTW_in 553 (by decide +kernel) rfl) (fxTW_in 554 (by decide +kernel) rfl) w_Job_doLeaf ini_ForkPool_Job (by decide) np_Job_doLeaf (by decide) (by decide) rfl hb9 hM hdd hst rfl k1 k2
theorem lm_FP_258 : Cond.methodLink "ForkPool" 258 y_FP_endTask ∈ fxTW := fxTW_in 589 (by decide +kernel) rfl
theorem c_FP_258 {G : fxG} {d nL : Nat} {cc : ByteArray} {nm : String} {ret : Option FieldType} {hh : List (Nat × Nat × Nat × Nat)} {x : fxX} {Q : State → Prop} {w : fxW} {pc : Nat} {ls : List (Nat × Value)} {st : List Value} (C : fxC G d cc nL "ForkPool" nm ret hh x) {b n0 d' : Nat} {a0 a1 : Value} {P : Outcome → fxW → Prop} (hd : decode cc pc = .ok (.invokevirtual 258, 3)) (hb9 : fxk w b = some (0, n0)) (hM : fxM G d' y_FP_endTask (.ref b :: [a0, a1]) w P) (hdd : d' < d) (hst : (st.map fun v => v.category).sum ≤ 8) (k1 : ∀ v w', P (.returned v) w' → fxR G nL x Q w' (pc + 3) ls (v.toList ++ st)) (k2 : ∀ a w', P (.threw a) w' → fxRt G nL x Q w' pc ls st a) : fxR G nL x Q w pc ls (a1 :: a0 :: .ref b :: st) := r_callV (As := [a0, a1]) (Cn := "ForkPool") (ci := 0) C hd lm_FP_258 (fxTW_in 591 (by decide +kernel) rfl) (fxTW_in 11 (by decide +kernel) rfl) w_FP_endTask ini_ForkPool (by decide) np_FP_endTask (by decide) (by decide) rfl hb9 hM hdd hst rfl k1 k2
theorem lm_FP_265 : Cond.methodLink "ForkPool" 265 y_Task_hasForked ∈ fxTW := fxTW_in 540 (by decide +kernel) rfl
theorem c_FP_265 {G : fxG} {d nL : Nat} {cc : ByteArray} {nm : String} {ret : Option FieldType} {hh : List (Nat × Nat × Nat × Nat)} {x : fxX} {Q : State → Prop} {w : fxW} {pc : Nat} {ls : List (Nat × Value)} {st : List Value} (C : fxC G d cc nL "ForkPool" nm ret hh x) {b n0 d' : Nat} {P : Outcome → fxW → Prop} (hd : decode cc pc = .ok (.invokevirtual 265, 3)) (hb9 : fxk w b = some (3, n0)) (hM : fxM G d' y_Task_hasForked (.ref b :: []) w P) (hdd : d' < d) (hst : (st.map fun v => v.category).sum ≤ 8) (k1 : ∀ v w', P (.returned v) w' → fxR G nL x Q w' (pc + 3) ls (v.toList ++ st)) (k2 : ∀ a w', P (.threw a) w' → fxRt G nL x Q w' pc ls st a) : fxR G nL x Q w pc ls (.ref b :: st) := r_callV (As := []) (Cn := "ForkPool$Task") (ci := 3) C hd lm_FP_265 (fxTW_in 541 (by decide +kernel) rfl) (fxTW_in 542 (by decide +kernel) rfl) w_Task_hasForked ini_ForkPool_Task (by decide) np_Task_hasForked (by decide) (by decide) rfl hb9 hM hdd hst rfl k1 k2
theorem lm_FP_274 : Cond.methodLink "ForkPool" 274 y_Job_joinParts ∈ fxTW := fxTW_in 593 (by decide +kernel) rfl
theorem c_FP_274 {G : fxG} {d nL : Nat} {cc : ByteArray} {nm : String} {ret : Option FieldType} {hh : List (Nat × Nat × Nat × Nat)} {x : fxX} {Q : State → Prop} {w : fxW} {pc : Nat} {ls : List (Nat × Value)} {st : List Value} (C : fxC G d cc nL "ForkPool" nm ret hh x) {b n0 d' : Nat} {a0 : Value} {P : Outcome → fxW → Prop} (hd : decode cc pc = .ok (.invokevirtual 274, 3)) (hb9 : fxk w b = some (2, n0)) (hM : fxM G d' y_Job_joinParts (.ref b :: [a0]) w P) (hdd : d' < d) (hst : (st.map fun v => v.category).sum ≤ 8) (k1 : ∀ v w', P (.returned v) w' → fxR G nL x Q w' (pc + 3) ls (v.toList ++ st)) (k2 : ∀ a w', P (.threw a) w' → fxRt G nL x Q w' pc ls st a) : fxR G nL x Q w pc ls (a0 :: .ref b :: st) := r_callV (As := [a0]) (Cn := "ForkPool$Job") (ci := 2) C hd lm_FP_274 (fxTW_in 594 (by decide +kernel) rfl) (fxTW_in 595 (by decide +kernel) rfl) w_Job_joinParts ini_ForkPool_Job (by decide) np_Job_joinParts (by decide) (by decide) rfl hb9 hM hdd hst rfl k1 k2
theorem lm_FP_277 : Cond.methodLink "ForkPool" 277 y_FP_endRound ∈ fxTW := fxTW_in 600 (by decide +kernel) rfl
theorem c_FP_277 {G : fxG} {d nL : Nat} {cc : ByteArray} {nm : String} {ret : Option FieldType} {hh : List (Nat × Nat × Nat × Nat)} {x : fxX} {Q : State → Prop} {w : fxW} {pc : Nat} {ls : List (Nat × Value)} {st : List Value} (C : fxC G d cc nL "ForkPool" nm ret hh x) {b n0 d' : Nat} {a0 a1 : Value} {P : Outcome → fxW → Prop} (hd : decode cc pc = .ok (.invokevirtual 277, 3)) (hb9 : fxk w b = some (0, n0)) (hM : fxM G d' y_FP_endRound (.ref b :: [a0, a1]) w P) (hdd : d' < d) (hst : (st.map fun v => v.category).sum ≤ 8) (k1 : ∀ v w', P (.returned v) w' → fxR G nL x Q w' (pc + 3) ls (v.toList ++ st)) (k2 : ∀ a w', P (.threw a) w' → fxRt G nL x Q w' pc ls st a) : fxR G nL x Q w pc ls (a1 :: a0 :: .ref b :: st) := r_callV (As := [a0, a1]) (Cn := "ForkPool") (ci := 0) C hd lm_FP_277 (fxTW_in 602 (by decide +kernel) rfl) (fxTW_in 12 (by decide +kernel) rfl) w_FP_endRound ini_ForkPool (by decide) np_FP_endRound (by decide) (by decide) rfl hb9 hM hdd hst rfl k1 k2
theorem lm_FP_281 : Cond.methodLink "ForkPool" 281 y_Wk_dropTasks ∈ fxTW := fxTW_in 608 (by decide +kernel) rfl
theorem c_FP_281 {G : fxG} {d nL : Nat} {cc : ByteArray} {nm : String} {ret : Option FieldType} {hh : List (Nat × Nat × Nat × Nat)} {x : fxX} {Q : State → Prop} {w : fxW} {pc : Nat} {ls : List (Nat × Value)} {st : List Value} (C : fxC G d cc nL "ForkPool" nm ret hh x) {b n0 d' : Nat} {a0 : Value} {P : Outcome → fxW → Prop} (hd : decode cc pc = .ok (.invokevirtual 281, 3)) (hb9 : fxk w b = some (4, n0)) (hM : fxM G d' y_Wk_dropTasks (.ref b :: [a0]) w P) (hdd : d' < d) (hst : (st.map fun v => v.category).sum ≤ 8) (k1 : ∀ v w', P (.returned v) w' → fxR G nL x Q w' (pc + 3) ls (v.toList ++ st)) (k2 : ∀ a w', P (.threw a) w' → fxRt G nL x Q w' pc ls st a) : fxR G nL x Q w pc ls (a0 :: .ref b :: st) := r_callV (As := [a0]) (Cn := "ForkPool$Worker") (ci := 4) C hd lm_FP_281 (fxTW_in 609 (by decide +kernel) rfl) (fxTW_in 610 (by decide +kernel) rfl) w_Wk_dropTasks ini_ForkPool_Worker (by decide) np_Wk_dropTasks (by decide) (by decide) rfl hb9 hM hdd hst rfl k1 k2
theorem lm_FP_285 : Cond.methodLink "ForkPool" 285 y_Wk_queuedTasks ∈ fxTW := fxTW_in 695 (by decide +kernel) rfl
theorem c_FP_285 {G : fxG} {d nL : Nat} {cc : ByteArray} {nm : String} {ret : Option FieldType} {hh : List (Nat × Nat × Nat × Nat)} {x : fxX} {Q : State → Prop} {w : fxW} {pc : Nat} {ls : List (Nat × Value)} {st : List Value} (C : fxC G d cc nL "ForkPool" nm ret hh x) {b n0 d' : Nat} {a0 : Value} {P : Outcome → fxW → Prop} (hd : decode cc pc = .ok (.invokevirtual 285, 3)) (hb9 : fxk w b = some (4, n0)) (hM : fxM G d' y_Wk_queuedTasks (.ref b :: [a0]) w P) (hdd : d' < d) (hst : (st.map fun v => v.category).sum ≤ 8) (k1 : ∀ v w', P (.returned v) w' → fxR G nL x Q w' (pc + 3) ls (v.toList ++ st)) (k2 : ∀ a w', P (.threw a) w' → fxRt G nL x Q w' pc ls st a) : fxR G nL x Q w pc ls (a0 :: .ref b :: st) := r_callV (As := [a0]) (Cn := "ForkPool$Worker") (ci := 4) C hd lm_FP_285 (fxTW_in 696 (by decide +kernel) rfl) (fxTW_in 697 (by decide +kernel) rfl) w_Wk_queuedTasks ini_ForkPool_Worker (by decide) np_Wk_queuedTasks (by decide) (by decide) rfl hb9 hM hdd hst rfl k1 k2
theorem lc_FP_9 : Cond.classLink "ForkPool" 9 "ForkPool$Row" ∈ fxTW := fxTW_in 70 (by decide +kernel) rfl
theorem n_FP_9 {G : fxG} {d nL : Nat} {cc : ByteArray} {nm : String} {ret : Option FieldType} {hh : List (Nat × Nat × Nat × Nat)} {x : fxX} {Q : State → Prop} {w : fxW} {pc : Nat} {ls : List (Nat × Value)} {st : List Value} (C : fxC G d cc nL "ForkPool" nm ret hh x) (hd : decode cc pc = .ok (.new 9, 3)) (h9 : fxt w + 1 ≤ fxmt G) (h8 : fxu w + 3 ≤ fxmu G) (k : fxR G nL x Q (fx_new w 1 3 (fun k => defaultValue (tRow k))) (pc + 3) ls (.ref (fxt w) :: st)) : fxR G nL x Q w pc ls st := r_new (Cn := RRow) (T := FRow) (N := 3) (ci := 1) C hd rfl (by decide) inRow tRow tyRow lc_FP_9 (fxTW_in 72 (by decide +kernel) rfl) ini_ForkPool_Row (fun _ _ => rfl) h9 h8 k
theorem lc_FP_25 : Cond.classLink "ForkPool" 25 "ForkPool$Worker" ∈ fxTW := fxTW_in 96 (by decide +kernel) rfl
theorem n_FP_25 {G : fxG} {d nL : Nat} {cc : ByteArray} {nm : String} {ret : Option FieldType} {hh : List (Nat × Nat × Nat × Nat)} {x : fxX} {Q : State → Prop} {w : fxW} {pc : Nat} {ls : List (Nat × Value)} {st : List Value} (C : fxC G d cc nL "ForkPool" nm ret hh x) (hd : decode cc pc = .ok (.new 25, 3)) (h9 : fxt w + 1 ≤ fxmt G) (h8 : fxu w + 5 ≤ fxmu G) (k : fxR G nL x Q (fx_new w 4 5 (fun k => defaultValue (tWk k))) (pc + 3) ls (.ref (fxt w) :: st)) : fxR G nL x Q w pc ls st := r_new (Cn := RWk) (T := FWk) (N := 5) (ci := 4) C hd rfl (by decide) inWk tWk tyWk lc_FP_25 (fxTW_in 98 (by decide +kernel) rfl) ini_ForkPool_Worker (fun _ _ => rfl) h9 h8 k
theorem lc_FP_34 : Cond.classLink "ForkPool" 34 "ForkPool$Job" ∈ fxTW := fxTW_in 146 (by decide +kernel) rfl
theorem n_FP_34 {G : fxG} {d nL : Nat} {cc : ByteArray} {nm : String} {ret : Option FieldType} {hh : List (Nat × Nat × Nat × Nat)} {x : fxX} {Q : State → Prop} {w : fxW} {pc : Nat} {ls : List (Nat × Value)} {st : List Value} (C : fxC G d cc nL "ForkPool" nm ret hh x) (hd : decode cc pc = .ok (.new 34, 3)) (h9 : fxt w + 1 ≤ fxmt G) (h8 : fxu w + 10 ≤ fxmu G) (k : fxR G nL x Q (fx_new w 2 10 (fun k => defaultValue (tJob k))) (pc + 3) ls (.ref (fxt w) :: st)) : fxR G nL x Q w pc ls st := r_new (Cn := RJob) (T := FJob) (N := 10) (ci := 2) C hd rfl (by decide) inJob tJob tyJob lc_FP_34 (fxTW_in 341 (by decide +kernel) rfl) ini_ForkPool_Job (fun _ _ => rfl) h9 h8 k
theorem lc_FP_48 : Cond.classLink "ForkPool" 48 "java/lang/IllegalArgumentException" ∈ fxTW := fxTW_in 185 (by decide +kernel) rfl
theorem lc_FP_86 : Cond.classLink "ForkPool" 86 "java/lang/IllegalStateException" ∈ fxTW := fxTW_in 259 (by decide +kernel) rfl
theorem lc_FP_94 : Cond.classLink "ForkPool" 94 "ForkPool$Task" ∈ fxTW := fxTW_in 384 (by decide +kernel) rfl
theorem n_FP_94 {G : fxG} {d nL : Nat} {cc : ByteArray} {nm : String} {ret : Option FieldType} {hh : List (Nat × Nat × Nat × Nat)} {x : fxX} {Q : State → Prop} {w : fxW} {pc : Nat} {ls : List (Nat × Value)} {st : List Value} (C : fxC G d cc nL "ForkPool" nm ret hh x) (hd : decode cc pc = .ok (.new 94, 3)) (h9 : fxt w + 1 ≤ fxmt G) (h8 : fxu w + 9 ≤ fxmu G) (k : fxR G nL x Q (fx_new w 3 9 (fun k => defaultValue (tTask k))) (pc + 3) ls (.ref (fxt w) :: st)) : fxR G nL x Q w pc ls st := r_new (Cn := RTask) (T := FTask) (N := 9) (ci := 3) C hd rfl (by decide) inTask tTask tyTask lc_FP_94 (fxTW_in 385 (by decide +kernel) rfl) ini_ForkPool_Task (fun _ _ => rfl) h9 h8 k
theorem lc_FP_123 : Cond.classLink "ForkPool" 123 "java/lang/ArithmeticException" ∈ fxTW := fxTW_in 642 (by decide +kernel) rfl
theorem lc_FP_131 : Cond.classLink "ForkPool" 131 "java/lang/UnsupportedOperationException" ∈ fxTW := fxTW_in 666 (by decide +kernel) rfl
theorem lc_FP_168 : Cond.classLink "ForkPool" 168 "java/util/NoSuchElementException" ∈ fxTW := fxTW_in 295 (by decide +kernel) rfl
theorem p_FP_11F {G : fxG} {d nL : Nat} {cc : ByteArray} {nm : String} {ret : Option FieldType} {hh : List (Nat × Nat × Nat × Nat)} {x : fxX} {Q : State → Prop} {w : fxW} {pc : Nat} {ls : List (Nat × Value)} {st : List Value} (C : fxC G d cc nL "ForkPool" "<init>" ret hh x) {a n : Nat} {v : Value} (hd : decode cc pc = .ok (.putfield 11, 3)) (hn : narrow (tFP 0) v = v) (hfit : fits (tFP 0) v = true) (ha : fxk w a = some (0, n)) (k : fxR G nL x Q (fx_put w 0 a v) (pc + 3) ls st) : fxR G nL x Q w pc ls (v :: .ref a :: st) := r_putF (Cn := RFP) (T := FFP) (N := 7) (ci := 0) (k0 := 0) C hd rfl (by decide) inFP tFP tyFP nmFP (by decide) lk_FP_11 (Or.inl rfl) rfl rfl (tyFP 0 (by decide)) hn hfit ha k
theorem p_FP_27F {G : fxG} {d nL : Nat} {cc : ByteArray} {nm : String} {ret : Option FieldType} {hh : List (Nat × Nat × Nat × Nat)} {x : fxX} {Q : State → Prop} {w : fxW} {pc : Nat} {ls : List (Nat × Value)} {st : List Value} (C : fxC G d cc nL "ForkPool" "<init>" ret hh x) {a n : Nat} {v : Value} (hd : decode cc pc = .ok (.putfield 27, 3)) (hn : narrow (tFP 1) v = v) (hfit : fits (tFP 1) v = true) (ha : fxk w a = some (0, n)) (k : fxR G nL x Q (fx_put w 1 a v) (pc + 3) ls st) : fxR G nL x Q w pc ls (v :: .ref a :: st) := r_putF (Cn := RFP) (T := FFP) (N := 7) (ci := 0) (k0 := 1) C hd rfl (by decide) inFP tFP tyFP nmFP (by decide) lk_FP_27 (Or.inl rfl) rfl rfl (tyFP 1 (by decide)) hn hfit ha k
theorem p_FP_36F {G : fxG} {d nL : Nat} {cc : ByteArray} {nm : String} {ret : Option FieldType} {hh : List (Nat × Nat × Nat × Nat)} {x : fxX} {Q : State → Prop} {w : fxW} {pc : Nat} {ls : List (Nat × Value)} {st : List Value} (C : fxC G d cc nL "ForkPool" "<init>" ret hh x) {a n : Nat} {v : Value} (hd : decode cc pc = .ok (.putfield 36, 3)) (hn : narrow (tFP 2) v = v) (hfit : fits (tFP 2) v = true) (ha : fxk w a = some (0, n)) (k : fxR G nL x Q (fx_put w 2 a v) (pc + 3) ls st) : fxR G nL x Q w pc ls (v :: .ref a :: st) := r_putF (Cn := RFP) (T := FFP) (N := 7) (ci := 0) (k0 := 2) C hd rfl (by decide) inFP tFP tyFP nmFP (by decide) lk_FP_36 (Or.inl rfl) rfl rfl (tyFP 2 (by decide)) hn hfit ha k
theorem p_FP_40 {G : fxG} {d nL : Nat} {cc : ByteArray} {nm : String} {ret : Option FieldType} {hh : List (Nat × Nat × Nat × Nat)} {x : fxX} {Q : State → Prop} {w : fxW} {pc : Nat} {ls : List (Nat × Value)} {st : List Value} (C : fxC G d cc nL "ForkPool" nm ret hh x) {a n : Nat} {v : Value} (hd : decode cc pc = .ok (.putfield 40, 3)) (hn : narrow (tFP 6) v = v) (hfit : fits (tFP 6) v = true) (ha : fxk w a = some (0, n)) (k : fxR G nL x Q (fx_put w 6 a v) (pc + 3) ls st) : fxR G nL x Q w pc ls (v :: .ref a :: st) := r_put (Cn := RFP) (T := FFP) (N := 7) (ci := 0) (k0 := 6) C hd rfl (by decide) inFP tFP tyFP nmFP (by decide) lk_FP_40 (Or.inl rfl) rfl (tyFP 6 (by decide)) hn hfit ha k
theorem p_FP_83 {G : fxG} {d nL : Nat} {cc : ByteArray} {nm : String} {ret : Option FieldType} {hh : List (Nat × Nat × Nat × Nat)} {x : fxX} {Q : State → Prop} {w : fxW} {pc : Nat} {ls : List (Nat × Value)} {st : List Value} (C : fxC G d cc nL "ForkPool" nm ret hh x) {a n : Nat} {v : Value} (hd : decode cc pc = .ok (.putfield 83, 3)) (hn : narrow (tFP 3) v = v) (hfit : fits (tFP 3) v = true) (ha : fxk w a = some (0, n)) (k : fxR G nL x Q (fx_put w 3 a v) (pc + 3) ls st) : fxR G nL x Q w pc ls (v :: .ref a :: st) := r_put (Cn := RFP) (T := FFP) (N := 7) (ci := 0) (k0 := 3) C hd rfl (by decide) inFP tFP tyFP nmFP (by decide) lk_FP_83 (Or.inl rfl) rfl (tyFP 3 (by decide)) hn hfit ha k
theorem p_FP_119 {G : fxG} {d nL : Nat} {cc : ByteArray} {nm : String} {ret : Option FieldType} {hh : List (Nat × Nat × Nat × Nat)} {x : fxX} {Q : State → Prop} {w : fxW} {pc : Nat} {ls : List (Nat × Value)} {st : List Value} (C : fxC G d cc nL "ForkPool" nm ret hh x) {a n : Nat} {v : Value} (hd : decode cc pc = .ok (.putfield 119, 3)) (hn : narrow (tJob 5) v = v) (hfit : fits (tJob 5) v = true) (ha : fxk w a = some (2, n)) (k : fxR G nL x Q (fx_put w 133 a v) (pc + 3) ls st) : fxR G nL x Q w pc ls (v :: .ref a :: st) := r_putN (Cn := RJob) (T := FJob) (N := 10) (ci := 2) (k0 := 5) C hd rfl (by decide) inJob tJob tyJob nmJob (by decide) lk_FP_119 (Or.inl rfl) rfl (tyJob 5 (by decide)) hn hfit ha k
theorem p_FP_138 {G : fxG} {d nL : Nat} {cc : ByteArray} {nm : String} {ret : Option FieldType} {hh : List (Nat × Nat × Nat × Nat)} {x : fxX} {Q : State → Prop} {w : fxW} {pc : Nat} {ls : List (Nat × Value)} {st : List Value} (C : fxC G d cc nL "ForkPool" nm ret hh x) {a n : Nat} {v : Value} (hd : decode cc pc = .ok (.putfield 138, 3)) (hn : narrow (tJob 9) v = v) (hfit : fits (tJob 9) v = true) (ha : fxk w a = some (2, n)) (k : fxR G nL x Q (fx_put w 137 a v) (pc + 3) ls st) : fxR G nL x Q w pc ls (v :: .ref a :: st) := r_putN (Cn := RJob) (T := FJob) (N := 10) (ci := 2) (k0 := 9) C hd rfl (by decide) inJob tJob tyJob nmJob (by decide) lk_FP_138 (Or.inl rfl) rfl (tyJob 9 (by decide)) hn hfit ha k
theorem p_FP_152 {G : fxG} {d nL : Nat} {cc : ByteArray} {nm : String} {ret : Option FieldType} {hh : List (Nat × Nat × Nat × Nat)} {x : fxX} {Q : State → Prop} {w : fxW} {pc : Nat} {ls : List (Nat × Value)} {st : List Value} (C : fxC G d cc nL "ForkPool" nm ret hh x) {a n : Nat} {v : Value} (hd : decode cc pc = .ok (.putfield 152, 3)) (hn : narrow (tJob 6) v = v) (hfit : fits (tJob 6) v = true) (ha : fxk w a = some (2, n)) (k : fxR G nL x Q (fx_put w 134 a v) (pc + 3) ls st) : fxR G nL x Q w pc ls (v :: .ref a :: st) := r_putN (Cn := RJob) (T := FJob) (N := 10) (ci := 2) (k0 := 6) C hd rfl (by decide) inJob tJob tyJob nmJob (by decide) lk_FP_152 (Or.inl rfl) rfl (tyJob 6 (by decide)) hn hfit ha k
theorem p_FP_155 {G : fxG} {d nL : Nat} {cc : ByteArray} {nm : String} {ret : Option FieldType} {hh : List (Nat × Nat × Nat × Nat)} {x : fxX} {Q : State → Prop} {w : fxW} {pc : Nat} {ls : List (Nat × Value)} {st : List Value} (C : fxC G d cc nL "ForkPool" nm ret hh x) {a n : Nat} {v : Value} (hd : decode cc pc = .ok (.putfield 155, 3)) (hn : narrow (tJob 7) v = v) (hfit : fits (tJob 7) v = true) (ha : fxk w a = some (2, n)) (k : fxR G nL x Q (fx_put w 135 a v) (pc + 3) ls st) : fxR G nL x Q w pc ls (v :: .ref a :: st) := r_putN (Cn := RJob) (T := FJob) (N := 10) (ci := 2) (k0 := 7) C hd rfl (by decide) inJob tJob tyJob nmJob (by decide) lk_FP_155 (Or.inl rfl) rfl (tyJob 7 (by decide)) hn hfit ha k
theorem p_FP_189 {G : fxG} {d nL : Nat} {cc : ByteArray} {nm : String} {ret : Option FieldType} {hh : List (Nat × Nat × Nat × Nat)} {x : fxX} {Q : State → Prop} {w : fxW} {pc : Nat} {ls : List (Nat × Value)} {st : List Value} (C : fxC G d cc nL "ForkPool" nm ret hh x) {a n : Nat} {v : Value} (hd : decode cc pc = .ok (.putfield 189, 3)) (hn : narrow (tWk 1) v = v) (hfit : fits (tWk 1) v = true) (ha : fxk w a = some (4, n)) (k : fxR G nL x Q (fx_put w 257 a v) (pc + 3) ls st) : fxR G nL x Q w pc ls (v :: .ref a :: st) := r_putN (Cn := RWk) (T := FWk) (N := 5) (ci := 4) (k0 := 1) C hd rfl (by decide) inWk tWk tyWk nmWk (by decide) lk_FP_189 (Or.inl rfl) rfl (tyWk 1 (by decide)) hn hfit ha k
theorem p_FP_190 {G : fxG} {d nL : Nat} {cc : ByteArray} {nm : String} {ret : Option FieldType} {hh : List (Nat × Nat × Nat × Nat)} {x : fxX} {Q : State → Prop} {w : fxW} {pc : Nat} {ls : List (Nat × Value)} {st : List Value} (C : fxC G d cc nL "ForkPool" nm ret hh x) {a n : Nat} {v : Value} (hd : decode cc pc = .ok (.putfield 190, 3)) (hn : narrow (tWk 2) v = v) (hfit : fits (tWk 2) v = true) (ha : fxk w a = some (4, n)) (k : fxR G nL x Q (fx_put w 258 a v) (pc + 3) ls st) : fxR G nL x Q w pc ls (v :: .ref a :: st) := r_putN (Cn := RWk) (T := FWk) (N := 5) (ci := 4) (k0 := 2) C hd rfl (by decide) inWk tWk tyWk nmWk (by decide) lk_FP_190 (Or.inl rfl) rfl (tyWk 2 (by decide)) hn hfit ha k
theorem p_FP_193 {G : fxG} {d nL : Nat} {cc : ByteArray} {nm : String} {ret : Option FieldType} {hh : List (Nat × Nat × Nat × Nat)} {x : fxX} {Q : State → Prop} {w : fxW} {pc : Nat} {ls : List (Nat × Value)} {st : List Value} (C : fxC G d cc nL "ForkPool" nm ret hh x) {a n : Nat} {v : Value} (hd : decode cc pc = .ok (.putfield 193, 3)) (hn : narrow (tWk 3) v = v) (hfit : fits (tWk 3) v = true) (ha : fxk w a = some (4, n)) (k : fxR G nL x Q (fx_put w 259 a v) (pc + 3) ls st) : fxR G nL x Q w pc ls (v :: .ref a :: st) := r_putN (Cn := RWk) (T := FWk) (N := 5) (ci := 4) (k0 := 3) C hd rfl (by decide) inWk tWk tyWk nmWk (by decide) lk_FP_193 (Or.inl rfl) rfl (tyWk 3 (by decide)) hn hfit ha k
theorem p_FP_196 {G : fxG} {d nL : Nat} {cc : ByteArray} {nm : String} {ret : Option FieldType} {hh : List (Nat × Nat × Nat × Nat)} {x : fxX} {Q : State → Prop} {w : fxW} {pc : Nat} {ls : List (Nat × Value)} {st : List Value} (C : fxC G d cc nL "ForkPool" nm ret hh x) {a n : Nat} {v : Value} (hd : decode cc pc = .ok (.putfield 196, 3)) (hn : narrow (tWk 4) v = v) (hfit : fits (tWk 4) v = true) (ha : fxk w a = some (4, n)) (k : fxR G nL x Q (fx_put w 260 a v) (pc + 3) ls st) : fxR G nL x Q w pc ls (v :: .ref a :: st) := r_putN (Cn := RWk) (T := FWk) (N := 5) (ci := 4) (k0 := 4) C hd rfl (by decide) inWk tWk tyWk nmWk (by decide) lk_FP_196 (Or.inl rfl) rfl (tyWk 4 (by decide)) hn hfit ha k
theorem p_FP_203 {G : fxG} {d nL : Nat} {cc : ByteArray} {nm : String} {ret : Option FieldType} {hh : List (Nat × Nat × Nat × Nat)} {x : fxX} {Q : State → Prop} {w : fxW} {pc : Nat} {ls : List (Nat × Value)} {st : List Value} (C : fxC G d cc nL "ForkPool" nm ret hh x) {a n : Nat} {v : Value} (hd : decode cc pc = .ok (.putfield 203, 3)) (hn : narrow (tFP 4) v = v) (hfit : fits (tFP 4) v = true) (ha : fxk w a = some (0, n)) (k : fxR G nL x Q (fx_put w 4 a v) (pc + 3) ls st) : fxR G nL x Q w pc ls (v :: .ref a :: st) := r_put (Cn := RFP) (T := FFP) (N := 7) (ci := 0) (k0 := 4) C hd rfl (by decide) inFP tFP tyFP nmFP (by decide) lk_FP_203 (Or.inl rfl) rfl (tyFP 4 (by decide)) hn hfit ha k
theorem p_FP_206 {G : fxG} {d nL : Nat} {cc : ByteArray} {nm : String} {ret : Option FieldType} {hh : List (Nat × Nat × Nat × Nat)} {x : fxX} {Q : State → Prop} {w : fxW} {pc : Nat} {ls : List (Nat × Value)} {st : List Value} (C : fxC G d cc nL "ForkPool" nm ret hh x) {a n : Nat} {v : Value} (hd : decode cc pc = .ok (.putfield 206, 3)) (hn : narrow (tFP 5) v = v) (hfit : fits (tFP 5) v = true) (ha : fxk w a = some (0, n)) (k : fxR G nL x Q (fx_put w 5 a v) (pc + 3) ls st) : fxR G nL x Q w pc ls (v :: .ref a :: st) := r_put (Cn := RFP) (T := FFP) (N := 7) (ci := 0) (k0 := 5) C hd rfl (by decide) inFP tFP tyFP nmFP (by decide) lk_FP_206 (Or.inl rfl) rfl (tyFP 5 (by decide)) hn hfit ha k
theorem p_FP_261 {G : fxG} {d nL : Nat} {cc : ByteArray} {nm : String} {ret : Option FieldType} {hh : List (Nat × Nat × Nat × Nat)} {x : fxX} {Q : State → Prop} {w : fxW} {pc : Nat} {ls : List (Nat × Value)} {st : List Value} (C : fxC G d cc nL "ForkPool" nm ret hh x) {a n : Nat} {v : Value} (hd : decode cc pc = .ok (.putfield 261, 3)) (hn : narrow (tJob 8) v = v) (hfit : fits (tJob 8) v = true) (ha : fxk w a = some (2, n)) (k : fxR G nL x Q (fx_put w 136 a v) (pc + 3) ls st) : fxR G nL x Q w pc ls (v :: .ref a :: st) := r_putN (Cn := RJob) (T := FJob) (N := 10) (ci := 2) (k0 := 8) C hd rfl (by decide) inJob tJob tyJob nmJob (by decide) lk_FP_261 (Or.inl rfl) rfl (tyJob 8 (by decide)) hn hfit ha k
theorem p_FP_271 {G : fxG} {d nL : Nat} {cc : ByteArray} {nm : String} {ret : Option FieldType} {hh : List (Nat × Nat × Nat × Nat)} {x : fxX} {Q : State → Prop} {w : fxW} {pc : Nat} {ls : List (Nat × Value)} {st : List Value} (C : fxC G d cc nL "ForkPool" nm ret hh x) {a n : Nat} {v : Value} (hd : decode cc pc = .ok (.putfield 271, 3)) (hn : narrow (tTask 6) v = v) (hfit : fits (tTask 6) v = true) (ha : fxk w a = some (3, n)) (k : fxR G nL x Q (fx_put w 198 a v) (pc + 3) ls st) : fxR G nL x Q w pc ls (v :: .ref a :: st) := r_putN (Cn := RTask) (T := FTask) (N := 9) (ci := 3) (k0 := 6) C hd rfl (by decide) inTask tTask tyTask nmTask (by decide) lk_FP_271 (Or.inl rfl) rfl (tyTask 6 (by decide)) hn hfit ha k
theorem lk_Job_21 : Cond.fieldLink "ForkPool$Job" 21 "ForkPool$Job" "kind" "I" ∈ fxTW := fxTW_in 348 (by decide +kernel) rfl
theorem g_Job_21 {G : fxG} {d nL : Nat} {cc : ByteArray} {nm : String} {ret : Option FieldType} {hh : List (Nat × Nat × Nat × Nat)} {x : fxX} {Q : State → Prop} {w : fxW} {pc : Nat} {ls : List (Nat × Value)} {st : List Value} (C : fxC G d cc nL "ForkPool$Job" nm ret hh x) {a n : Nat} {v : Value} (hd : decode cc pc = .ok (.getfield 21, 3)) (ha : fxk w a = some (2, n)) (hv : fxf w 129 a = v) (k : fxR G nL x Q w (pc + 3) ls (v :: st)) : fxR G nL x Q w pc ls (.ref a :: st) := r_get (Cn := RJob) (T := FJob) (N := 10) (ci := 2) (k0 := 1) C hd rfl (by decide) inJob (by decide) lk_Job_21 (Or.inl rfl) ha hv k
theorem lk_Job_24 : Cond.fieldLink "ForkPool$Job" 24 "ForkPool$Job" "row" "LForkPool$Row;" ∈ fxTW := fxTW_in 350 (by decide +kernel) rfl
theorem g_Job_24 {G : fxG} {d nL : Nat} {cc : ByteArray} {nm : String} {ret : Option FieldType} {hh : List (Nat × Nat × Nat × Nat)} {x : fxX} {Q : State → Prop} {w : fxW} {pc : Nat} {ls : List (Nat × Value)} {st : List Value} (C : fxC G d cc nL "ForkPool$Job" nm ret hh x) {a n : Nat} {v : Value} (hd : decode cc pc = .ok (.getfield 24, 3)) (ha : fxk w a = some (2, n)) (hv : fxf w 130 a = v) (k : fxR G nL x Q w (pc + 3) ls (v :: st)) : fxR G nL x Q w pc ls (.ref a :: st) := r_get (Cn := RJob) (T := FJob) (N := 10) (ci := 2) (k0 := 2) C hd rfl (by decide) inJob (by decide) lk_Job_24 (Or.inl rfl) ha hv k
theorem lk_Job_28 : Cond.fieldLink "ForkPool$Job" 28 "ForkPool$Job" "c" "I" ∈ fxTW := fxTW_in 353 (by decide +kernel) rfl
theorem g_Job_28 {G : fxG} {d nL : Nat} {cc : ByteArray} {nm : String} {ret : Option FieldType} {hh : List (Nat × Nat × Nat × Nat)} {x : fxX} {Q : State → Prop} {w : fxW} {pc : Nat} {ls : List (Nat × Value)} {st : List Value} (C : fxC G d cc nL "ForkPool$Job" nm ret hh x) {a n : Nat} {v : Value} (hd : decode cc pc = .ok (.getfield 28, 3)) (ha : fxk w a = some (2, n)) (hv : fxf w 131 a = v) (k : fxR G nL x Q w (pc + 3) ls (v :: st)) : fxR G nL x Q w pc ls (.ref a :: st) := r_get (Cn := RJob) (T := FJob) (N := 10) (ci := 2) (k0 := 3) C hd rfl (by decide) inJob (by decide) lk_Job_28 (Or.inl rfl) ha hv k
theorem lk_Job_31 : Cond.fieldLink "ForkPool$Job" 31 "ForkPool$Job" "d" "I" ∈ fxTW := fxTW_in 354 (by decide +kernel) rfl
theorem g_Job_31 {G : fxG} {d nL : Nat} {cc : ByteArray} {nm : String} {ret : Option FieldType} {hh : List (Nat × Nat × Nat × Nat)} {x : fxX} {Q : State → Prop} {w : fxW} {pc : Nat} {ls : List (Nat × Value)} {st : List Value} (C : fxC G d cc nL "ForkPool$Job" nm ret hh x) {a n : Nat} {v : Value} (hd : decode cc pc = .ok (.getfield 31, 3)) (ha : fxk w a = some (2, n)) (hv : fxf w 132 a = v) (k : fxR G nL x Q w (pc + 3) ls (v :: st)) : fxR G nL x Q w pc ls (.ref a :: st) := r_get (Cn := RJob) (T := FJob) (N := 10) (ci := 2) (k0 := 4) C hd rfl (by decide) inJob (by decide) lk_Job_31 (Or.inl rfl) ha hv k
theorem lk_Job_34 : Cond.fieldLinkNest "ForkPool$Job" 34 "ForkPool$Task" "from" "I" "ForkPool" ∈ fxTW := fxTW_in 396 (by decide +kernel) rfl
theorem g_Job_34 {G : fxG} {d nL : Nat} {cc : ByteArray} {nm : String} {ret : Option FieldType} {hh : List (Nat × Nat × Nat × Nat)} {x : fxX} {Q : State → Prop} {w : fxW} {pc : Nat} {ls : List (Nat × Value)} {st : List Value} (C : fxC G d cc nL "ForkPool$Job" nm ret hh x) {a n : Nat} {v : Value} (hd : decode cc pc = .ok (.getfield 34, 3)) (ha : fxk w a = some (3, n)) (hv : fxf w 194 a = v) (k : fxR G nL x Q w (pc + 3) ls (v :: st)) : fxR G nL x Q w pc ls (.ref a :: st) := r_getN (Cn := RTask) (T := FTask) (N := 9) (ci := 3) (k0 := 2) C hd rfl (by decide) inTask (by decide) lk_Job_34 (Or.inl rfl) ha hv k
theorem lk_Job_39 : Cond.fieldLinkNest "ForkPool$Job" 39 "ForkPool$Task" "to" "I" "ForkPool" ∈ fxTW := fxTW_in 399 (by decide +kernel) rfl
theorem g_Job_39 {G : fxG} {d nL : Nat} {cc : ByteArray} {nm : String} {ret : Option FieldType} {hh : List (Nat × Nat × Nat × Nat)} {x : fxX} {Q : State → Prop} {w : fxW} {pc : Nat} {ls : List (Nat × Value)} {st : List Value} (C : fxC G d cc nL "ForkPool$Job" nm ret hh x) {a n : Nat} {v : Value} (hd : decode cc pc = .ok (.getfield 39, 3)) (ha : fxk w a = some (3, n)) (hv : fxf w 195 a = v) (k : fxR G nL x Q w (pc + 3) ls (v :: st)) : fxR G nL x Q w pc ls (.ref a :: st) := r_getN (Cn := RTask) (T := FTask) (N := 9) (ci := 3) (k0 := 3) C hd rfl (by decide) inTask (by decide) lk_Job_39 (Or.inl rfl) ha hv k
theorem lk_Job_48 : Cond.fieldLinkNest "ForkPool$Job" 48 "ForkPool$Task" "result" "J" "ForkPool" ∈ fxTW := fxTW_in 409 (by decide +kernel) rfl
theorem g_Job_48 {G : fxG} {d nL : Nat} {cc : ByteArray} {nm : String} {ret : Option FieldType} {hh : List (Nat × Nat × Nat × Nat)} {x : fxX} {Q : State → Prop} {w : fxW} {pc : Nat} {ls : List (Nat × Value)} {st : List Value} (C : fxC G d cc nL "ForkPool$Job" nm ret hh x) {a n : Nat} {v : Value} (hd : decode cc pc = .ok (.getfield 48, 3)) (ha : fxk w a = some (3, n)) (hv : fxf w 199 a = v) (k : fxR G nL x Q w (pc + 3) ls (v :: st)) : fxR G nL x Q w pc ls (.ref a :: st) := r_getN (Cn := RTask) (T := FTask) (N := 9) (ci := 3) (k0 := 7) C hd rfl (by decide) inTask (by decide) lk_Job_48 (Or.inl rfl) ha hv k
theorem lk_Job_55 : Cond.fieldLink "ForkPool$Job" 55 "ForkPool$Job" "inSecondRound" "Z" ∈ fxTW := fxTW_in 360 (by decide +kernel) rfl
theorem g_Job_55 {G : fxG} {d nL : Nat} {cc : ByteArray} {nm : String} {ret : Option FieldType} {hh : List (Nat × Nat × Nat × Nat)} {x : fxX} {Q : State → Prop} {w : fxW} {pc : Nat} {ls : List (Nat × Value)} {st : List Value} (C : fxC G d cc nL "ForkPool$Job" nm ret hh x) {a n : Nat} {v : Value} (hd : decode cc pc = .ok (.getfield 55, 3)) (ha : fxk w a = some (2, n)) (hv : fxf w 136 a = v) (k : fxR G nL x Q w (pc + 3) ls (v :: st)) : fxR G nL x Q w pc ls (.ref a :: st) := r_get (Cn := RJob) (T := FJob) (N := 10) (ci := 2) (k0 := 8) C hd rfl (by decide) inJob (by decide) lk_Job_55 (Or.inl rfl) ha hv k
theorem lk_Job_59 : Cond.fieldLinkNest "ForkPool$Job" 59 "ForkPool$Task" "base" "J" "ForkPool" ∈ fxTW := fxTW_in 412 (by decide +kernel) rfl
theorem g_Job_59 {G : fxG} {d nL : Nat} {cc : ByteArray} {nm : String} {ret : Option FieldType} {hh : List (Nat × Nat × Nat × Nat)} {x : fxX} {Q : State → Prop} {w : fxW} {pc : Nat} {ls : List (Nat × Value)} {st : List Value} (C : fxC G d cc nL "ForkPool$Job" nm ret hh x) {a n : Nat} {v : Value} (hd : decode cc pc = .ok (.getfield 59, 3)) (ha : fxk w a = some (3, n)) (hv : fxf w 200 a = v) (k : fxR G nL x Q w (pc + 3) ls (v :: st)) : fxR G nL x Q w pc ls (.ref a :: st) := r_getN (Cn := RTask) (T := FTask) (N := 9) (ci := 3) (k0 := 8) C hd rfl (by decide) inTask (by decide) lk_Job_59 (Or.inl rfl) ha hv k
theorem lk_Job_82 : Cond.fieldLinkNest "ForkPool$Job" 82 "ForkPool$Task" "first" "LForkPool$Task;" "ForkPool" ∈ fxTW := fxTW_in 402 (by decide +kernel) rfl
theorem g_Job_82 {G : fxG} {d nL : Nat} {cc : ByteArray} {nm : String} {ret : Option FieldType} {hh : List (Nat × Nat × Nat × Nat)} {x : fxX} {Q : State → Prop} {w : fxW} {pc : Nat} {ls : List (Nat × Value)} {st : List Value} (C : fxC G d cc nL "ForkPool$Job" nm ret hh x) {a n : Nat} {v : Value} (hd : decode cc pc = .ok (.getfield 82, 3)) (ha : fxk w a = some (3, n)) (hv : fxf w 196 a = v) (k : fxR G nL x Q w (pc + 3) ls (v :: st)) : fxR G nL x Q w pc ls (.ref a :: st) := r_getN (Cn := RTask) (T := FTask) (N := 9) (ci := 3) (k0 := 4) C hd rfl (by decide) inTask (by decide) lk_Job_82 (Or.inl rfl) ha hv k
theorem lk_Job_86 : Cond.fieldLinkNest "ForkPool$Job" 86 "ForkPool$Task" "second" "LForkPool$Task;" "ForkPool" ∈ fxTW := fxTW_in 405 (by decide +kernel) rfl
theorem g_Job_86 {G : fxG} {d nL : Nat} {cc : ByteArray} {nm : String} {ret : Option FieldType} {hh : List (Nat × Nat × Nat × Nat)} {x : fxX} {Q : State → Prop} {w : fxW} {pc : Nat} {ls : List (Nat × Value)} {st : List Value} (C : fxC G d cc nL "ForkPool$Job" nm ret hh x) {a n : Nat} {v : Value} (hd : decode cc pc = .ok (.getfield 86, 3)) (ha : fxk w a = some (3, n)) (hv : fxf w 197 a = v) (k : fxR G nL x Q w (pc + 3) ls (v :: st)) : fxR G nL x Q w pc ls (.ref a :: st) := r_getN (Cn := RTask) (T := FTask) (N := 9) (ci := 3) (k0 := 5) C hd rfl (by decide) inTask (by decide) lk_Job_86 (Or.inl rfl) ha hv k
theorem o_Job_3 {G : fxG} {d nL : Nat} {cc : ByteArray} {nm : String} {ret : Option FieldType} {hh : List (Nat × Nat × Nat × Nat)} {x : fxX} {Q : State → Prop} {w : fxW} {pc : Nat} {ls : List (Nat × Value)} {st : List Value} (C : fxC G d cc nL "ForkPool$Job" nm ret hh x) {b : Nat} (hd : decode cc pc = .ok (.invokespecial 3, 3)) (h1 : 1 ≤ d) (hst : (st.map fun v => v.category).sum ≤ 8) (k : fxR G nL x Q w (pc + 3) ls st) : fxR G nL x Q w pc ls (.ref b :: st) := r_objInit C hd (fxTW_in 345 (by decide +kernel) rfl) (fxTW_in 68 (by decide +kernel) rfl) (fxTW_in 69 (by decide +kernel) rfl) h1 hst k
theorem lm_Job_89 : Cond.methodLink "ForkPool$Job" 89 y_Ma_maxL ∈ fxTW := fxTW_in 598 (by decide +kernel) rfl
theorem c_Job_89 {G : fxG} {d nL : Nat} {cc : ByteArray} {nm : String} {ret : Option FieldType} {hh : List (Nat × Nat × Nat × Nat)} {x : fxX} {Q : State → Prop} {w : fxW} {pc : Nat} {ls : List (Nat × Value)} {st : List Value} (C : fxC G d cc nL "ForkPool$Job" nm ret hh x) {d' : Nat} {a0 a1 : Value} {P : Outcome → fxW → Prop} (hd : decode cc pc = .ok (.invokestatic 89, 3)) (hM : fxM G d' y_Ma_maxL [a0, a1] w P) (hdd : d' < d) (hst : (st.map fun v => v.category).sum ≤ 8) (k1 : ∀ v w', P (.returned v) w' → fxR G nL x Q w' (pc + 3) ls (v.toList ++ st)) (k2 : ∀ a w', P (.threw a) w' → fxRt G nL x Q w' pc ls st a) : fxR G nL x Q w pc ls (a1 :: a0 :: st) := r_callS (As := [a0, a1]) C hd lm_Job_89 (fxTW_in 322 (by decide +kernel) rfl) w_Ma_maxL ini_java_lang_Math (by decide) np_Ma_maxL (by decide) hM hdd hst rfl k1 k2
theorem lm_Job_42 : Cond.methodLink "ForkPool$Job" 42 y_Row_sumOf ∈ fxTW := fxTW_in 556 (by decide +kernel) rfl
theorem c_Job_42 {G : fxG} {d nL : Nat} {cc : ByteArray} {nm : String} {ret : Option FieldType} {hh : List (Nat × Nat × Nat × Nat)} {x : fxX} {Q : State → Prop} {w : fxW} {pc : Nat} {ls : List (Nat × Value)} {st : List Value} (C : fxC G d cc nL "ForkPool$Job" nm ret hh x) {b n0 d' : Nat} {a0 a1 : Value} {P : Outcome → fxW → Prop} (hd : decode cc pc = .ok (.invokevirtual 42, 3)) (hb9 : fxk w b = some (1, n0)) (hM : fxM G d' y_Row_sumOf (.ref b :: [a0, a1]) w P) (hdd : d' < d) (hst : (st.map fun v => v.category).sum ≤ 8) (k1 : ∀ v w', P (.returned v) w' → fxR G nL x Q w' (pc + 3) ls (v.toList ++ st)) (k2 : ∀ a w', P (.threw a) w' → fxRt G nL x Q w' pc ls st a) : fxR G nL x Q w pc ls (a1 :: a0 :: .ref b :: st) := r_callV (As := [a0, a1]) (Cn := "ForkPool$Row") (ci := 1) C hd lm_Job_42 (fxTW_in 557 (by decide +kernel) rfl) (fxTW_in 558 (by decide +kernel) rfl) w_Row_sumOf ini_ForkPool_Row (by decide) np_Row_sumOf (by decide) (by decide) rfl hb9 hM hdd hst rfl k1 k2
theorem lm_Job_52 : Cond.methodLink "ForkPool$Job" 52 y_Row_greatestOf ∈ fxTW := fxTW_in 561 (by decide +kernel) rfl
theorem c_Job_52 {G : fxG} {d nL : Nat} {cc : ByteArray} {nm : String} {ret : Option FieldType} {hh : List (Nat × Nat × Nat × Nat)} {x : fxX} {Q : State → Prop} {w : fxW} {pc : Nat} {ls : List (Nat × Value)} {st : List Value} (C : fxC G d cc nL "ForkPool$Job" nm ret hh x) {b n0 d' : Nat} {a0 a1 : Value} {P : Outcome → fxW → Prop} (hd : decode cc pc = .ok (.invokevirtual 52, 3)) (hb9 : fxk w b = some (1, n0)) (hM : fxM G d' y_Row_greatestOf (.ref b :: [a0, a1]) w P) (hdd : d' < d) (hst : (st.map fun v => v.category).sum ≤ 8) (k1 : ∀ v w', P (.returned v) w' → fxR G nL x Q w' (pc + 3) ls (v.toList ++ st)) (k2 : ∀ a w', P (.threw a) w' → fxRt G nL x Q w' pc ls st a) : fxR G nL x Q w pc ls (a1 :: a0 :: .ref b :: st) := r_callV (As := [a0, a1]) (Cn := "ForkPool$Row") (ci := 1) C hd lm_Job_52 (fxTW_in 562 (by decide +kernel) rfl) (fxTW_in 563 (by decide +kernel) rfl) w_Row_greatestOf ini_ForkPool_Row (by decide) np_Row_greatestOf (by decide) (by decide) rfl hb9 hM hdd hst rfl k1 k2
theorem lm_Job_62 : Cond.methodLink "ForkPool$Job" 62 y_Row_addUp ∈ fxTW := fxTW_in 565 (by decide +kernel) rfl
theorem c_Job_62 {G : fxG} {d nL : Nat} {cc : ByteArray} {nm : String} {ret : Option FieldType} {hh : List (Nat × Nat × Nat × Nat)} {x : fxX} {Q : State → Prop} {w : fxW} {pc : Nat} {ls : List (Nat × Value)} {st : List Value} (C : fxC G d cc nL "ForkPool$Job" nm ret hh x) {b n0 d' : Nat} {a0 a1 a2 : Value} {P : Outcome → fxW → Prop} (hd : decode cc pc = .ok (.invokevirtual 62, 3)) (hb9 : fxk w b = some (1, n0)) (hM : fxM G d' y_Row_addUp (.ref b :: [a0, a1, a2]) w P) (hdd : d' < d) (hst : (st.map fun v => v.category).sum ≤ 8) (k1 : ∀ v w', P (.returned v) w' → fxR G nL x Q w' (pc + 3) ls (v.toList ++ st)) (k2 : ∀ a w', P (.threw a) w' → fxRt G nL x Q w' pc ls st a) : fxR G nL x Q w pc ls (a2 :: a1 :: a0 :: .ref b :: st) := r_callV (As := [a0, a1, a2]) (Cn := "ForkPool$Row") (ci := 1) C hd lm_Job_62 (fxTW_in 566 (by decide +kernel) rfl) (fxTW_in 567 (by decide +kernel) rfl) w_Row_addUp ini_ForkPool_Row (by decide) np_Row_addUp (by decide) (by decide) rfl hb9 hM hdd hst rfl k1 k2
theorem lm_Job_66 : Cond.methodLink "ForkPool$Job" 66 y_Row_putInOrder ∈ fxTW := fxTW_in 569 (by decide +kernel) rfl
theorem c_Job_66 {G : fxG} {d nL : Nat} {cc : ByteArray} {nm : String} {ret : Option FieldType} {hh : List (Nat × Nat × Nat × Nat)} {x : fxX} {Q : State → Prop} {w : fxW} {pc : Nat} {ls : List (Nat × Value)} {st : List Value} (C : fxC G d cc nL "ForkPool$Job" nm ret hh x) {b n0 d' : Nat} {a0 a1 : Value} {P : Outcome → fxW → Prop} (hd : decode cc pc = .ok (.invokevirtual 66, 3)) (hb9 : fxk w b = some (1, n0)) (hM : fxM G d' y_Row_putInOrder (.ref b :: [a0, a1]) w P) (hdd : d' < d) (hst : (st.map fun v => v.category).sum ≤ 8) (k1 : ∀ v w', P (.returned v) w' → fxR G nL x Q w' (pc + 3) ls (v.toList ++ st)) (k2 : ∀ a w', P (.threw a) w' → fxRt G nL x Q w' pc ls st a) : fxR G nL x Q w pc ls (a1 :: a0 :: .ref b :: st) := r_callV (As := [a0, a1]) (Cn := "ForkPool$Row") (ci := 1) C hd lm_Job_66 (fxTW_in 570 (by decide +kernel) rfl) (fxTW_in 571 (by decide +kernel) rfl) w_Row_putInOrder ini_ForkPool_Row (by decide) np_Row_putInOrder (by decide) (by decide) rfl hb9 hM hdd hst rfl k1 k2
theorem lm_Job_70 : Cond.methodLink "ForkPool$Job" 70 y_Row_mapAll ∈ fxTW := fxTW_in 573 (by decide +kernel) rfl
theorem c_Job_70 {G : fxG} {d nL : Nat} {cc : ByteArray} {nm : String} {ret : Option FieldType} {hh : List (Nat × Nat × Nat × Nat)} {x : fxX} {Q : State → Prop} {w : fxW} {pc : Nat} {ls : List (Nat × Value)} {st : List Value} (C : fxC G d cc nL "ForkPool$Job" nm ret hh x) {b n0 d' : Nat} {a0 a1 a2 a3 : Value} {P : Outcome → fxW → Prop} (hd : decode cc pc = .ok (.invokevirtual 70, 3)) (hb9 : fxk w b = some (1, n0)) (hM : fxM G d' y_Row_mapAll (.ref b :: [a0, a1, a2, a3]) w P) (hdd : d' < d) (hst : (st.map fun v => v.category).sum ≤ 8) (k1 : ∀ v w', P (.returned v) w' → fxR G nL x Q w' (pc + 3) ls (v.toList ++ st)) (k2 : ∀ a w', P (.threw a) w' → fxRt G nL x Q w' pc ls st a) : fxR G nL x Q w pc ls (a3 :: a2 :: a1 :: a0 :: .ref b :: st) := r_callV (As := [a0, a1, a2, a3]) (Cn := "ForkPool$Row") (ci := 1) C hd lm_Job_70 (fxTW_in 574 (by decide +kernel) rfl) (fxTW_in 575 (by decide +kernel) rfl) w_Row_mapAll ini_ForkPool_Row (by decide) np_Row_mapAll (by decide) (by decide) rfl hb9 hM hdd hst rfl k1 k2
theorem lm_Job_74 : Cond.methodLink "ForkPool$Job" 74 y_Row_shareAll ∈ fxTW := fxTW_in 582 (by decide +kernel) rfl
theorem c_Job_74 {G : fxG} {d nL : Nat} {cc : ByteArray} {nm : String} {ret : Option FieldType} {hh : List (Nat × Nat × Nat × Nat)} {x : fxX} {Q : State → Prop} {w : fxW} {pc : Nat} {ls : List (Nat × Value)} {st : List Value} (C : fxC G d cc nL "ForkPool$Job" nm ret hh x) {b n0 d' : Nat} {a0 a1 a2 : Value} {P : Outcome → fxW → Prop} (hd : decode cc pc = .ok (.invokevirtual 74, 3)) (hb9 : fxk w b = some (1, n0)) (hM : fxM G d' y_Row_shareAll (.ref b :: [a0, a1, a2]) w P) (hdd : d' < d) (hst : (st.map fun v => v.category).sum ≤ 8) (k1 : ∀ v w', P (.returned v) w' → fxR G nL x Q w' (pc + 3) ls (v.toList ++ st)) (k2 : ∀ a w', P (.threw a) w' → fxRt G nL x Q w' pc ls st a) : fxR G nL x Q w pc ls (a2 :: a1 :: a0 :: .ref b :: st) := r_callV (As := [a0, a1, a2]) (Cn := "ForkPool$Row") (ci := 1) C hd lm_Job_74 (fxTW_in 583 (by decide +kernel) rfl) (fxTW_in 584 (by decide +kernel) rfl) w_Row_shareAll ini_ForkPool_Row (by decide) np_Row_shareAll (by decide) (by decide) rfl hb9 hM hdd hst rfl k1 k2
theorem lm_Job_78 : Cond.methodLink "ForkPool$Job" 78 y_Task_hasForked ∈ fxTW := fxTW_in 597 (by decide +kernel) rfl
theorem c_Job_78 {G : fxG} {d nL : Nat} {cc : ByteArray} {nm : String} {ret : Option FieldType} {hh : List (Nat × Nat × Nat × Nat)} {x : fxX} {Q : State → Prop} {w : fxW} {pc : Nat} {ls : List (Nat × Value)} {st : List Value} (C : fxC G d cc nL "ForkPool$Job" nm ret hh x) {b n0 d' : Nat} {P : Outcome → fxW → Prop} (hd : decode cc pc = .ok (.invokevirtual 78, 3)) (hb9 : fxk w b = some (3, n0)) (hM : fxM G d' y_Task_hasForked (.ref b :: []) w P) (hdd : d' < d) (hst : (st.map fun v => v.category).sum ≤ 8) (k1 : ∀ v w', P (.returned v) w' → fxR G nL x Q w' (pc + 3) ls (v.toList ++ st)) (k2 : ∀ a w', P (.threw a) w' → fxRt G nL x Q w' pc ls st a) : fxR G nL x Q w pc ls (.ref b :: st) := r_callV (As := []) (Cn := "ForkPool$Task") (ci := 3) C hd lm_Job_78 (fxTW_in 541 (by decide +kernel) rfl) (fxTW_in 542 (by decide +kernel) rfl) w_Task_hasForked ini_ForkPool_Task (by decide) np_Task_hasForked (by decide) (by decide) rfl hb9 hM hdd hst rfl k1 k2
theorem lm_Job_95 : Cond.methodLink "ForkPool$Job" 95 y_Row_kept ∈ fxTW := fxTW_in 599 (by decide +kernel) rfl
theorem c_Job_95 {G : fxG} {d nL : Nat} {cc : ByteArray} {nm : String} {ret : Option FieldType} {hh : List (Nat × Nat × Nat × Nat)} {x : fxX} {Q : State → Prop} {w : fxW} {pc : Nat} {ls : List (Nat × Value)} {st : List Value} (C : fxC G d cc nL "ForkPool$Job" nm ret hh x) {b n0 d' : Nat} {a0 : Value} {P : Outcome → fxW → Prop} (hd : decode cc pc = .ok (.invokevirtual 95, 3)) (hb9 : fxk w b = some (1, n0)) (hM : fxM G d' y_Row_kept (.ref b :: [a0]) w P) (hdd : d' < d) (hst : (st.map fun v => v.category).sum ≤ 8) (k1 : ∀ v w', P (.returned v) w' → fxR G nL x Q w' (pc + 3) ls (v.toList ++ st)) (k2 : ∀ a w', P (.threw a) w' → fxRt G nL x Q w' pc ls st a) : fxR G nL x Q w pc ls (a0 :: .ref b :: st) := r_callV (As := [a0]) (Cn := "ForkPool$Row") (ci := 1) C hd lm_Job_95 (fxTW_in 313 (by decide +kernel) rfl) (fxTW_in 314 (by decide +kernel) rfl) w_Row_kept ini_ForkPool_Row (by decide) np_Row_kept (by decide) (by decide) rfl hb9 hM hdd hst rfl k1 k2
theorem lk_Job_9 : Cond.fieldLink "ForkPool$Job" 9 "ForkPool$Job" "state" "I" ∈ fxTW := fxTW_in 355 (by decide +kernel) rfl
theorem p_Job_9 {G : fxG} {d nL : Nat} {cc : ByteArray} {nm : String} {ret : Option FieldType} {hh : List (Nat × Nat × Nat × Nat)} {x : fxX} {Q : State → Prop} {w : fxW} {pc : Nat} {ls : List (Nat × Value)} {st : List Value} (C : fxC G d cc nL "ForkPool$Job" nm ret hh x) {a n : Nat} {v : Value} (hd : decode cc pc = .ok (.putfield 9, 3)) (hn : narrow (tJob 5) v = v) (hfit : fits (tJob 5) v = true) (ha : fxk w a = some (2, n)) (k : fxR G nL x Q (fx_put w 133 a v) (pc + 3) ls st) : fxR G nL x Q w pc ls (v :: .ref a :: st) := r_put (Cn := RJob) (T := FJob) (N := 10) (ci := 2) (k0 := 5) C hd rfl (by decide) inJob tJob tyJob nmJob (by decide) lk_Job_9 (Or.inl rfl) rfl (tyJob 5 (by decide)) hn hfit ha k
theorem lk_Job_15 : Cond.fieldLink "ForkPool$Job" 15 "ForkPool$Job" "failedAt" "I" ∈ fxTW := fxTW_in 357 (by decide +kernel) rfl
theorem p_Job_15 {G : fxG} {d nL : Nat} {cc : ByteArray} {nm : String} {ret : Option FieldType} {hh : List (Nat × Nat × Nat × Nat)} {x : fxX} {Q : State → Prop} {w : fxW} {pc : Nat} {ls : List (Nat × Value)} {st : List Value} (C : fxC G d cc nL "ForkPool$Job" nm ret hh x) {a n : Nat} {v : Value} (hd : decode cc pc = .ok (.putfield 15, 3)) (hn : narrow (tJob 6) v = v) (hfit : fits (tJob 6) v = true) (ha : fxk w a = some (2, n)) (k : fxR G nL x Q (fx_put w 134 a v) (pc + 3) ls st) : fxR G nL x Q w pc ls (v :: .ref a :: st) := r_put (Cn := RJob) (T := FJob) (N := 10) (ci := 2) (k0 := 6) C hd rfl (by decide) inJob tJob tyJob nmJob (by decide) lk_Job_15 (Or.inl rfl) rfl (tyJob 6 (by decide)) hn hfit ha k
theorem lk_Job_18 : Cond.fieldLink "ForkPool$Job" 18 "ForkPool$Job" "number" "I" ∈ fxTW := fxTW_in 346 (by decide +kernel) rfl
theorem p_Job_18F {G : fxG} {d nL : Nat} {cc : ByteArray} {nm : String} {ret : Option FieldType} {hh : List (Nat × Nat × Nat × Nat)} {x : fxX} {Q : State → Prop} {w : fxW} {pc : Nat} {ls : List (Nat × Value)} {st : List Value} (C : fxC G d cc nL "ForkPool$Job" "<init>" ret hh x) {a n : Nat} {v : Value} (hd : decode cc pc = .ok (.putfield 18, 3)) (hn : narrow (tJob 0) v = v) (hfit : fits (tJob 0) v = true) (ha : fxk w a = some (2, n)) (k : fxR G nL x Q (fx_put w 128 a v) (pc + 3) ls st) : fxR G nL x Q w pc ls (v :: .ref a :: st) := r_putF (Cn := RJob) (T := FJob) (N := 10) (ci := 2) (k0 := 0) C hd rfl (by decide) inJob tJob tyJob nmJob (by decide) lk_Job_18 (Or.inl rfl) rfl rfl (tyJob 0 (by decide)) hn hfit ha k
theorem p_Job_21F {G : fxG} {d nL : Nat} {cc : ByteArray} {nm : String} {ret : Option FieldType} {hh : List (Nat × Nat × Nat × Nat)} {x : fxX} {Q : State → Prop} {w : fxW} {pc : Nat} {ls : List (Nat × Value)} {st : List Value} (C : fxC G d cc nL "ForkPool$Job" "<init>" ret hh x) {a n : Nat} {v : Value} (hd : decode cc pc = .ok (.putfield 21, 3)) (hn : narrow (tJob 1) v = v) (hfit : fits (tJob 1) v = true) (ha : fxk w a = some (2, n)) (k : fxR G nL x Q (fx_put w 129 a v) (pc + 3) ls st) : fxR G nL x Q w pc ls (v :: .ref a :: st) := r_putF (Cn := RJob) (T := FJob) (N := 10) (ci := 2) (k0 := 1) C hd rfl (by decide) inJob tJob tyJob nmJob (by decide) lk_Job_21 (Or.inl rfl) rfl rfl (tyJob 1 (by decide)) hn hfit ha k
theorem p_Job_24F {G : fxG} {d nL : Nat} {cc : ByteArray} {nm : String} {ret : Option FieldType} {hh : List (Nat × Nat × Nat × Nat)} {x : fxX} {Q : State → Prop} {w : fxW} {pc : Nat} {ls : List (Nat × Value)} {st : List Value} (C : fxC G d cc nL "ForkPool$Job" "<init>" ret hh x) {a n : Nat} {v : Value} (hd : decode cc pc = .ok (.putfield 24, 3)) (hn : narrow (tJob 2) v = v) (hfit : fits (tJob 2) v = true) (ha : fxk w a = some (2, n)) (k : fxR G nL x Q (fx_put w 130 a v) (pc + 3) ls st) : fxR G nL x Q w pc ls (v :: .ref a :: st) := r_putF (Cn := RJob) (T := FJob) (N := 10) (ci := 2) (k0 := 2) C hd rfl (by decide) inJob tJob tyJob nmJob (by decide) lk_Job_24 (Or.inl rfl) rfl rfl (tyJob 2 (by decide)) hn hfit ha k
theorem p_Job_28F {G : fxG} {d nL : Nat} {cc : ByteArray} {nm : String} {ret : Option FieldType} {hh : List (Nat × Nat × Nat × Nat)} {x : fxX} {Q : State → Prop} {w : fxW} {pc : Nat} {ls : List (Nat × Value)} {st : List Value} (C : fxC G d cc nL "ForkPool$Job" "<init>" ret hh x) {a n : Nat} {v : Value} (hd : decode cc pc = .ok (.putfield 28, 3)) (hn : narrow (tJob 3) v = v) (hfit : fits (tJob 3) v = true) (ha : fxk w a = some (2, n)) (k : fxR G nL x Q (fx_put w 131 a v) (pc + 3) ls st) : fxR G nL x Q w pc ls (v :: .ref a :: st) := r_putF (Cn := RJob) (T := FJob) (N := 10) (ci := 2) (k0 := 3) C hd rfl (by decide) inJob tJob tyJob nmJob (by decide) lk_Job_28 (Or.inl rfl) rfl rfl (tyJob 3 (by decide)) hn hfit ha k
theorem p_Job_31F {G : fxG} {d nL : Nat} {cc : ByteArray} {nm : String} {ret : Option FieldType} {hh : List (Nat × Nat × Nat × Nat)} {x : fxX} {Q : State → Prop} {w : fxW} {pc : Nat} {ls : List (Nat × Value)} {st : List Value} (C : fxC G d cc nL "ForkPool$Job" "<init>" ret hh x) {a n : Nat} {v : Value} (hd : decode cc pc = .ok (.putfield 31, 3)) (hn : narrow (tJob 4) v = v) (hfit : fits (tJob 4) v = true) (ha : fxk w a = some (2, n)) (k : fxR G nL x Q (fx_put w 132 a v) (pc + 3) ls st) : fxR G nL x Q w pc ls (v :: .ref a :: st) := r_putF (Cn := RJob) (T := FJob) (N := 10) (ci := 2) (k0 := 4) C hd rfl (by decide) inJob tJob tyJob nmJob (by decide) lk_Job_31 (Or.inl rfl) rfl rfl (tyJob 4 (by decide)) hn hfit ha k
theorem p_Job_48 {G : fxG} {d nL : Nat} {cc : ByteArray} {nm : String} {ret : Option FieldType} {hh : List (Nat × Nat × Nat × Nat)} {x : fxX} {Q : State → Prop} {w : fxW} {pc : Nat} {ls : List (Nat × Value)} {st : List Value} (C : fxC G d cc nL "ForkPool$Job" nm ret hh x) {a n : Nat} {v : Value} (hd : decode cc pc = .ok (.putfield 48, 3)) (hn : narrow (tTask 7) v = v) (hfit : fits (tTask 7) v = true) (ha : fxk w a = some (3, n)) (k : fxR G nL x Q (fx_put w 199 a v) (pc + 3) ls st) : fxR G nL x Q w pc ls (v :: .ref a :: st) := r_putN (Cn := RTask) (T := FTask) (N := 9) (ci := 3) (k0 := 7) C hd rfl (by decide) inTask tTask tyTask nmTask (by decide) lk_Job_48 (Or.inl rfl) rfl (tyTask 7 (by decide)) hn hfit ha k
theorem lm_Lw_71 : Cond.methodLink "ForkPoolLaw" 71 y_FP_init ∈ fxTW := fxTW_in 64 (by decide +kernel) rfl
theorem c_Lw_71 {G : fxG} {d nL : Nat} {cc : ByteArray} {nm : String} {ret : Option FieldType} {hh : List (Nat × Nat × Nat × Nat)} {x : fxX} {Q : State → Prop} {w : fxW} {pc : Nat} {ls : List (Nat × Value)} {st : List Value} (C : fxC G d cc nL "ForkPoolLaw" nm ret hh x) {b d' : Nat} {a0 : Value} {P : Outcome → fxW → Prop} (hd : decode cc pc = .ok (.invokespecial 71, 3)) (hM : fxM G d' y_FP_init (.ref b :: [a0]) w P) (hdd : d' < d) (hst : (st.map fun v => v.category).sum ≤ 8) (k1 : ∀ v w', P (.returned v) w' → fxR G nL x Q w' (pc + 3) ls (v.toList ++ st)) (k2 : ∀ a w', P (.threw a) w' → fxRt G nL x Q w' pc ls st a) : fxR G nL x Q w pc ls (a0 :: .ref b :: st) := r_callI (As := [a0]) C hd lm_Lw_71 rfl (fxTW_in 65 (by decide +kernel) rfl) w_FP_init ini_ForkPool (by decide) np_FP_init (by decide) hM hdd hst rfl k1 k2
theorem lm_Lw_76 : Cond.methodLink "ForkPoolLaw" 76 y_Mo_init ∈ fxTW := fxTW_in 751 (by decide +kernel) rfl
theorem c_Lw_76 {G : fxG} {d nL : Nat} {cc : ByteArray} {nm : String} {ret : Option FieldType} {hh : List (Nat × Nat × Nat × Nat)} {x : fxX} {Q : State → Prop} {w : fxW} {pc : Nat} {ls : List (Nat × Value)} {st : List Value} (C : fxC G d cc nL "ForkPoolLaw" nm ret hh x) {b d' : Nat} {a0 : Value} {P : Outcome → fxW → Prop} (hd : decode cc pc = .ok (.invokespecial 76, 3)) (hM : fxM G d' y_Mo_init (.ref b :: [a0]) w P) (hdd : d' < d) (hst : (st.map fun v => v.category).sum ≤ 8) (k1 : ∀ v w', P (.returned v) w' → fxR G nL x Q w' (pc + 3) ls (v.toList ++ st)) (k2 : ∀ a w', P (.threw a) w' → fxRt G nL x Q w' pc ls st a) : fxR G nL x Q w pc ls (a0 :: .ref b :: st) := r_callI (As := [a0]) C hd lm_Lw_76 rfl (fxTW_in 752 (by decide +kernel) rfl) w_Mo_init ini_ForkPoolModel (by decide) np_Mo_init (by decide) hM hdd hst rfl k1 k2
theorem lm_Lw_65 : Cond.methodLink "ForkPoolLaw" 65 y_Lw_cell ∈ fxTW := fxTW_in 170 (by decide +kernel) rfl
theorem c_Lw_65 {G : fxG} {d nL : Nat} {cc : ByteArray} {nm : String} {ret : Option FieldType} {hh : List (Nat × Nat × Nat × Nat)} {x : fxX} {Q : State → Prop} {w : fxW} {pc : Nat} {ls : List (Nat × Value)} {st : List Value} (C : fxC G d cc nL "ForkPoolLaw" nm ret hh x) {d' : Nat} {a0 a1 : Value} {P : Outcome → fxW → Prop} (hd : decode cc pc = .ok (.invokestatic 65, 3)) (hM : fxM G d' y_Lw_cell [a0, a1] w P) (hdd : d' < d) (hst : (st.map fun v => v.category).sum ≤ 8) (k1 : ∀ v w', P (.returned v) w' → fxR G nL x Q w' (pc + 3) ls (v.toList ++ st)) (k2 : ∀ a w', P (.threw a) w' → fxRt G nL x Q w' pc ls st a) : fxR G nL x Q w pc ls (a1 :: a0 :: st) := r_callS (As := [a0, a1]) C hd lm_Lw_65 (fxTW_in 171 (by decide +kernel) rfl) w_Lw_cell ini_ForkPoolLaw (by decide) np_Lw_cell (by decide) hM hdd hst rfl k1 k2
theorem lm_Lw_77 : Cond.methodLink "ForkPoolLaw" 77 y_Lw_array ∈ fxTW := fxTW_in 173 (by decide +kernel) rfl
theorem c_Lw_77 {G : fxG} {d nL : Nat} {cc : ByteArray} {nm : String} {ret : Option FieldType} {hh : List (Nat × Nat × Nat × Nat)} {x : fxX} {Q : State → Prop} {w : fxW} {pc : Nat} {ls : List (Nat × Value)} {st : List Value} (C : fxC G d cc nL "ForkPoolLaw" nm ret hh x) {d' : Nat} {a0 a1 a2 a3 a4 : Value} {P : Outcome → fxW → Prop} (hd : decode cc pc = .ok (.invokestatic 77, 3)) (hM : fxM G d' y_Lw_array [a0, a1, a2, a3, a4] w P) (hdd : d' < d) (hst : (st.map fun v => v.category).sum ≤ 8) (k1 : ∀ v w', P (.returned v) w' → fxR G nL x Q w' (pc + 3) ls (v.toList ++ st)) (k2 : ∀ a w', P (.threw a) w' → fxRt G nL x Q w' pc ls st a) : fxR G nL x Q w pc ls (a4 :: a3 :: a2 :: a1 :: a0 :: st) := r_callS (As := [a0, a1, a2, a3, a4]) C hd lm_Lw_77 (fxTW_in 174 (by decide +kernel) rfl) w_Lw_array ini_ForkPoolLaw (by decide) np_Lw_array (by decide) hM hdd hst rfl k1 k2
theorem lm_Lw_87 : Cond.methodLink "ForkPoolLaw" 87 y_Lw_set ∈ fxTW := fxTW_in 279 (by decide +kernel) rfl
theorem c_Lw_87 {G : fxG} {d nL : Nat} {cc : ByteArray} {nm : String} {ret : Option FieldType} {hh : List (Nat × Nat × Nat × Nat)} {x : fxX} {Q : State → Prop} {w : fxW} {pc : Nat} {ls : List (Nat × Value)} {st : List Value} (C : fxC G d cc nL "ForkPoolLaw" nm ret hh x) {d' : Nat} {a0 a1 a2 a3 a4 : Value} {P : Outcome → fxW → Prop} (hd : decode cc pc = .ok (.invokestatic 87, 3)) (hM : fxM G d' y_Lw_set [a0, a1, a2, a3, a4] w P) (hdd : d' < d) (hst : (st.map fun v => v.category).sum ≤ 8) (k1 : ∀ v w', P (.returned v) w' → fxR G nL x Q w' (pc + 3) ls (v.toList ++ st)) (k2 : ∀ a w', P (.threw a) w' → fxRt G nL x Q w' pc ls st a) : fxR G nL x Q w pc ls (a4 :: a3 :: a2 :: a1 :: a0 :: st) := r_callS (As := [a0, a1, a2, a3, a4]) C hd lm_Lw_87 (fxTW_in 280 (by decide +kernel) rfl) w_Lw_set ini_ForkPoolLaw (by decide) np_Lw_set (by decide) hM hdd hst rfl k1 k2
theorem lm_Lw_91 : Cond.methodLink "ForkPoolLaw" 91 y_Lw_get ∈ fxTW := fxTW_in 324 (by decide +kernel) rfl
theorem c_Lw_91 {G : fxG} {d nL : Nat} {cc : ByteArray} {nm : String} {ret : Option FieldType} {hh : List (Nat × Nat × Nat × Nat)} {x : fxX} {Q : State → Prop} {w : fxW} {pc : Nat} {ls : List (Nat × Value)} {st : List Value} (C : fxC G d cc nL "ForkPoolLaw" nm ret hh x) {d' : Nat} {a0 a1 a2 a3 : Value} {P : Outcome → fxW → Prop} (hd : decode cc pc = .ok (.invokestatic 91, 3)) (hM : fxM G d' y_Lw_get [a0, a1, a2, a3] w P) (hdd : d' < d) (hst : (st.map fun v => v.category).sum ≤ 8) (k1 : ∀ v w', P (.returned v) w' → fxR G nL x Q w' (pc + 3) ls (v.toList ++ st)) (k2 : ∀ a w', P (.threw a) w' → fxRt G nL x Q w' pc ls st a) : fxR G nL x Q w pc ls (a3 :: a2 :: a1 :: a0 :: st) := r_callS (As := [a0, a1, a2, a3]) C hd lm_Lw_91 (fxTW_in 325 (by decide +kernel) rfl) w_Lw_get ini_ForkPoolLaw (by decide) np_Lw_get (by decide) hM hdd hst rfl k1 k2
theorem lm_Lw_95 : Cond.methodLink "ForkPoolLaw" 95 y_Lw_begin ∈ fxTW := fxTW_in 331 (by decide +kernel) rfl
theorem c_Lw_95 {G : fxG} {d nL : Nat} {cc : ByteArray} {nm : String} {ret : Option FieldType} {hh : List (Nat × Nat × Nat × Nat)} {x : fxX} {Q : State → Prop} {w : fxW} {pc : Nat} {ls : List (Nat × Value)} {st : List Value} (C : fxC G d cc nL "ForkPoolLaw" nm ret hh x) {d' : Nat} {a0 a1 a2 a3 a4 a5 a6 : Value} {P : Outcome → fxW → Prop} (hd : decode cc pc = .ok (.invokestatic 95, 3)) (hM : fxM G d' y_Lw_begin [a0, a1, a2, a3, a4, a5, a6] w P) (hdd : d' < d) (hst : (st.map fun v => v.category).sum ≤ 8) (k1 : ∀ v w', P (.returned v) w' → fxR G nL x Q w' (pc + 3) ls (v.toList ++ st)) (k2 : ∀ a w', P (.threw a) w' → fxRt G nL x Q w' pc ls st a) : fxR G nL x Q w pc ls (a6 :: a5 :: a4 :: a3 :: a2 :: a1 :: a0 :: st) := r_callS (As := [a0, a1, a2, a3, a4, a5, a6]) C hd lm_Lw_95 (fxTW_in 332 (by decide +kernel) rfl) w_Lw_begin ini_ForkPoolLaw (by decide) np_Lw_begin (by decide) hM hdd hst rfl k1 k2
theorem lm_Lw_99 : Cond.methodLink "ForkPoolLaw" 99 y_Lw_step ∈ fxTW := fxTW_in 492 (by decide +kernel) rfl
theorem c_Lw_99 {G : fxG} {d nL : Nat} {cc : ByteArray} {nm : String} {ret : Option FieldType} {hh : List (Nat × Nat × Nat × Nat)} {x : fxX} {Q : State → Prop} {w : fxW} {pc : Nat} {ls : List (Nat × Value)} {st : List Value} (C : fxC G d cc nL "ForkPoolLaw" nm ret hh x) {d' : Nat} {a0 a1 a2 : Value} {P : Outcome → fxW → Prop} (hd : decode cc pc = .ok (.invokestatic 99, 3)) (hM : fxM G d' y_Lw_step [a0, a1, a2] w P) (hdd : d' < d) (hst : (st.map fun v => v.category).sum ≤ 8) (k1 : ∀ v w', P (.returned v) w' → fxR G nL x Q w' (pc + 3) ls (v.toList ++ st)) (k2 : ∀ a w', P (.threw a) w' → fxRt G nL x Q w' pc ls st a) : fxR G nL x Q w pc ls (a2 :: a1 :: a0 :: st) := r_callS (As := [a0, a1, a2]) C hd lm_Lw_99 (fxTW_in 493 (by decide +kernel) rfl) w_Lw_step ini_ForkPoolLaw (by decide) np_Lw_step (by decide) hM hdd hst rfl k1 k2
theorem lm_Lw_103 : Cond.methodLink "ForkPoolLaw" 103 y_Lw_join ∈ fxTW := fxTW_in 628 (by decide +kernel) rfl
theorem c_Lw_103 {G : fxG} {d nL : Nat} {cc : ByteArray} {nm : String} {ret : Option FieldType} {hh : List (Nat × Nat × Nat × Nat)} {x : fxX} {Q : State → Prop} {w : fxW} {pc : Nat} {ls : List (Nat × Value)} {st : List Value} (C : fxC G d cc nL "ForkPoolLaw" nm ret hh x) {d' : Nat} {a0 a1 a2 : Value} {P : Outcome → fxW → Prop} (hd : decode cc pc = .ok (.invokestatic 103, 3)) (hM : fxM G d' y_Lw_join [a0, a1, a2] w P) (hdd : d' < d) (hst : (st.map fun v => v.category).sum ≤ 8) (k1 : ∀ v w', P (.returned v) w' → fxR G nL x Q w' (pc + 3) ls (v.toList ++ st)) (k2 : ∀ a w', P (.threw a) w' → fxRt G nL x Q w' pc ls st a) : fxR G nL x Q w pc ls (a2 :: a1 :: a0 :: st) := r_callS (As := [a0, a1, a2]) C hd lm_Lw_103 (fxTW_in 629 (by decide +kernel) rfl) w_Lw_join ini_ForkPoolLaw (by decide) np_Lw_join (by decide) hM hdd hst rfl k1 k2
theorem lm_Lw_106 : Cond.methodLink "ForkPoolLaw" 106 y_Lw_result ∈ fxTW := fxTW_in 658 (by decide +kernel) rfl
theorem c_Lw_106 {G : fxG} {d nL : Nat} {cc : ByteArray} {nm : String} {ret : Option FieldType} {hh : List (Nat × Nat × Nat × Nat)} {x : fxX} {Q : State → Prop} {w : fxW} {pc : Nat} {ls : List (Nat × Value)} {st : List Value} (C : fxC G d cc nL "ForkPoolLaw" nm ret hh x) {d' : Nat} {a0 a1 a2 : Value} {P : Outcome → fxW → Prop} (hd : decode cc pc = .ok (.invokestatic 106, 3)) (hM : fxM G d' y_Lw_result [a0, a1, a2] w P) (hdd : d' < d) (hst : (st.map fun v => v.category).sum ≤ 8) (k1 : ∀ v w', P (.returned v) w' → fxR G nL x Q w' (pc + 3) ls (v.toList ++ st)) (k2 : ∀ a w', P (.threw a) w' → fxRt G nL x Q w' pc ls st a) : fxR G nL x Q w pc ls (a2 :: a1 :: a0 :: st) := r_callS (As := [a0, a1, a2]) C hd lm_Lw_106 (fxTW_in 659 (by decide +kernel) rfl) w_Lw_result ini_ForkPoolLaw (by decide) np_Lw_result (by decide) hM hdd hst rfl k1 k2
theorem lm_Lw_109 : Cond.methodLink "ForkPoolLaw" 109 y_Lw_cancel ∈ fxTW := fxTW_in 683 (by decide +kernel) rfl
theorem c_Lw_109 {G : fxG} {d nL : Nat} {cc : ByteArray} {nm : String} {ret : Option FieldType} {hh : List (Nat × Nat × Nat × Nat)} {x : fxX} {Q : State → Prop} {w : fxW} {pc : Nat} {ls : List (Nat × Value)} {st : List Value} (C : fxC G d cc nL "ForkPoolLaw" nm ret hh x) {d' : Nat} {a0 a1 a2 : Value} {P : Outcome → fxW → Prop} (hd : decode cc pc = .ok (.invokestatic 109, 3)) (hM : fxM G d' y_Lw_cancel [a0, a1, a2] w P) (hdd : d' < d) (hst : (st.map fun v => v.category).sum ≤ 8) (k1 : ∀ v w', P (.returned v) w' → fxR G nL x Q w' (pc + 3) ls (v.toList ++ st)) (k2 : ∀ a w', P (.threw a) w' → fxRt G nL x Q w' pc ls st a) : fxR G nL x Q w pc ls (a2 :: a1 :: a0 :: st) := r_callS (As := [a0, a1, a2]) C hd lm_Lw_109 (fxTW_in 684 (by decide +kernel) rfl) w_Lw_cancel ini_ForkPoolLaw (by decide) np_Lw_cancel (by decide) hM hdd hst rfl k1 k2
theorem lm_Lw_112 : Cond.methodLink "ForkPoolLaw" 112 y_Lw_job ∈ fxTW := fxTW_in 699 (by decide +kernel) rfl
theorem c_Lw_112 {G : fxG} {d nL : Nat} {cc : ByteArray} {nm : String} {ret : Option FieldType} {hh : List (Nat × Nat × Nat × Nat)} {x : fxX} {Q : State → Prop} {w : fxW} {pc : Nat} {ls : List (Nat × Value)} {st : List Value} (C : fxC G d cc nL "ForkPoolLaw" nm ret hh x) {d' : Nat} {a0 a1 a2 a3 : Value} {P : Outcome → fxW → Prop} (hd : decode cc pc = .ok (.invokestatic 112, 3)) (hM : fxM G d' y_Lw_job [a0, a1, a2, a3] w P) (hdd : d' < d) (hst : (st.map fun v => v.category).sum ≤ 8) (k1 : ∀ v w', P (.returned v) w' → fxR G nL x Q w' (pc + 3) ls (v.toList ++ st)) (k2 : ∀ a w', P (.threw a) w' → fxRt G nL x Q w' pc ls st a) : fxR G nL x Q w pc ls (a3 :: a2 :: a1 :: a0 :: st) := r_callS (As := [a0, a1, a2, a3]) C hd lm_Lw_112 (fxTW_in 700 (by decide +kernel) rfl) w_Lw_job ini_ForkPoolLaw (by decide) np_Lw_job (by decide) hM hdd hst rfl k1 k2
theorem lm_Lw_115 : Cond.methodLink "ForkPoolLaw" 115 y_Lw_task ∈ fxTW := fxTW_in 707 (by decide +kernel) rfl
theorem c_Lw_115 {G : fxG} {d nL : Nat} {cc : ByteArray} {nm : String} {ret : Option FieldType} {hh : List (Nat × Nat × Nat × Nat)} {x : fxX} {Q : State → Prop} {w : fxW} {pc : Nat} {ls : List (Nat × Value)} {st : List Value} (C : fxC G d cc nL "ForkPoolLaw" nm ret hh x) {d' : Nat} {a0 a1 a2 a3 a4 : Value} {P : Outcome → fxW → Prop} (hd : decode cc pc = .ok (.invokestatic 115, 3)) (hM : fxM G d' y_Lw_task [a0, a1, a2, a3, a4] w P) (hdd : d' < d) (hst : (st.map fun v => v.category).sum ≤ 8) (k1 : ∀ v w', P (.returned v) w' → fxR G nL x Q w' (pc + 3) ls (v.toList ++ st)) (k2 : ∀ a w', P (.threw a) w' → fxRt G nL x Q w' pc ls st a) : fxR G nL x Q w pc ls (a4 :: a3 :: a2 :: a1 :: a0 :: st) := r_callS (As := [a0, a1, a2, a3, a4]) C hd lm_Lw_115 (fxTW_in 708 (by decide +kernel) rfl) w_Lw_task ini_ForkPoolLaw (by decide) np_Lw_task (by decide) hM hdd hst rfl k1 k2
theorem lm_Lw_118 : Cond.methodLink "ForkPoolLaw" 118 y_Lw_worker ∈ fxTW := fxTW_in 725 (by decide +kernel) rfl
theorem c_Lw_118 {G : fxG} {d nL : Nat} {cc : ByteArray} {nm : String} {ret : Option FieldType} {hh : List (Nat × Nat × Nat × Nat)} {x : fxX} {Q : State → Prop} {w : fxW} {pc : Nat} {ls : List (Nat × Value)} {st : List Value} (C : fxC G d cc nL "ForkPoolLaw" nm ret hh x) {d' : Nat} {a0 a1 a2 a3 : Value} {P : Outcome → fxW → Prop} (hd : decode cc pc = .ok (.invokestatic 118, 3)) (hM : fxM G d' y_Lw_worker [a0, a1, a2, a3] w P) (hdd : d' < d) (hst : (st.map fun v => v.category).sum ≤ 8) (k1 : ∀ v w', P (.returned v) w' → fxR G nL x Q w' (pc + 3) ls (v.toList ++ st)) (k2 : ∀ a w', P (.threw a) w' → fxRt G nL x Q w' pc ls st a) : fxR G nL x Q w pc ls (a3 :: a2 :: a1 :: a0 :: st) := r_callS (As := [a0, a1, a2, a3]) C hd lm_Lw_118 (fxTW_in 726 (by decide +kernel) rfl) w_Lw_worker ini_ForkPoolLaw (by decide) np_Lw_worker (by decide) hM hdd hst rfl k1 k2
theorem lm_Lw_121 : Cond.methodLink "ForkPoolLaw" 121 y_Lw_grain ∈ fxTW := fxTW_in 733 (by decide +kernel) rfl
theorem c_Lw_121 {G : fxG} {d nL : Nat} {cc : ByteArray} {nm : String} {ret : Option FieldType} {hh : List (Nat × Nat × Nat × Nat)} {x : fxX} {Q : State → Prop} {w : fxW} {pc : Nat} {ls : List (Nat × Value)} {st : List Value} (C : fxC G d cc nL "ForkPoolLaw" nm ret hh x) {d' : Nat} {a0 a1 a2 : Value} {P : Outcome → fxW → Prop} (hd : decode cc pc = .ok (.invokestatic 121, 3)) (hM : fxM G d' y_Lw_grain [a0, a1, a2] w P) (hdd : d' < d) (hst : (st.map fun v => v.category).sum ≤ 8) (k1 : ∀ v w', P (.returned v) w' → fxR G nL x Q w' (pc + 3) ls (v.toList ++ st)) (k2 : ∀ a w', P (.threw a) w' → fxRt G nL x Q w' pc ls st a) : fxR G nL x Q w pc ls (a2 :: a1 :: a0 :: st) := r_callS (As := [a0, a1, a2]) C hd lm_Lw_121 (fxTW_in 734 (by decide +kernel) rfl) w_Lw_grain ini_ForkPoolLaw (by decide) np_Lw_grain (by decide) hM hdd hst rfl k1 k2
theorem lm_Lw_124 : Cond.methodLink "ForkPoolLaw" 124 y_Lw_count ∈ fxTW := fxTW_in 741 (by decide +kernel) rfl
theorem c_Lw_124 {G : fxG} {d nL : Nat} {cc : ByteArray} {nm : String} {ret : Option FieldType} {hh : List (Nat × Nat × Nat × Nat)} {x : fxX} {Q : State → Prop} {w : fxW} {pc : Nat} {ls : List (Nat × Value)} {st : List Value} (C : fxC G d cc nL "ForkPoolLaw" nm ret hh x) {d' : Nat} {a0 a1 a2 : Value} {P : Outcome → fxW → Prop} (hd : decode cc pc = .ok (.invokestatic 124, 3)) (hM : fxM G d' y_Lw_count [a0, a1, a2] w P) (hdd : d' < d) (hst : (st.map fun v => v.category).sum ≤ 8) (k1 : ∀ v w', P (.returned v) w' → fxR G nL x Q w' (pc + 3) ls (v.toList ++ st)) (k2 : ∀ a w', P (.threw a) w' → fxRt G nL x Q w' pc ls st a) : fxR G nL x Q w pc ls (a2 :: a1 :: a0 :: st) := r_callS (As := [a0, a1, a2]) C hd lm_Lw_124 (fxTW_in 742 (by decide +kernel) rfl) w_Lw_count ini_ForkPoolLaw (by decide) np_Lw_count (by decide) hM hdd hst rfl k1 k2
theorem lm_Lw_7 : Cond.methodLink "ForkPoolLaw" 7 y_FP_array ∈ fxTW := fxTW_in 178 (by decide +kernel) rfl
theorem c_Lw_7 {G : fxG} {d nL : Nat} {cc : ByteArray} {nm : String} {ret : Option FieldType} {hh : List (Nat × Nat × Nat × Nat)} {x : fxX} {Q : State → Prop} {w : fxW} {pc : Nat} {ls : List (Nat × Value)} {st : List Value} (C : fxC G d cc nL "ForkPoolLaw" nm ret hh x) {b n0 d' : Nat} {a0 a1 a2 : Value} {P : Outcome → fxW → Prop} (hd : decode cc pc = .ok (.invokevirtual 7, 3)) (hb9 : fxk w b = some (0, n0)) (hM : fxM G d' y_FP_array (.ref b :: [a0, a1, a2]) w P) (hdd : d' < d) (hst : (st.map fun v => v.category).sum ≤ 8) (k1 : ∀ v w', P (.returned v) w' → fxR G nL x Q w' (pc + 3) ls (v.toList ++ st)) (k2 : ∀ a w', P (.threw a) w' → fxRt G nL x Q w' pc ls st a) : fxR G nL x Q w pc ls (a2 :: a1 :: a0 :: .ref b :: st) := r_callV (As := [a0, a1, a2]) (Cn := "ForkPool") (ci := 0) C hd lm_Lw_7 (fxTW_in 179 (by decide +kernel) rfl) (fxTW_in 180 (by decide +kernel) rfl) w_FP_array ini_ForkPool (by decide) np_FP_array (by decide) (by decide) rfl hb9 hM hdd hst rfl k1 k2
theorem lm_Lw_17 : Cond.methodLink "ForkPoolLaw" 17 y_FP_set ∈ fxTW := fxTW_in 283 (by decide +kernel) rfl
theorem c_Lw_17 {G : fxG} {d nL : Nat} {cc : ByteArray} {nm : String} {ret : Option FieldType} {hh : List (Nat × Nat × Nat × Nat)} {x : fxX} {Q : State → Prop} {w : fxW} {pc : Nat} {ls : List (Nat × Value)} {st : List Value} (C : fxC G d cc nL "ForkPoolLaw" nm ret hh x) {b n0 d' : Nat} {a0 a1 a2 : Value} {P : Outcome → fxW → Prop} (hd : decode cc pc = .ok (.invokevirtual 17, 3)) (hb9 : fxk w b = some (0, n0)) (hM : fxM G d' y_FP_set (.ref b :: [a0, a1, a2]) w P) (hdd : d' < d) (hst : (st.map fun v => v.category).sum ≤ 8) (k1 : ∀ v w', P (.returned v) w' → fxR G nL x Q w' (pc + 3) ls (v.toList ++ st)) (k2 : ∀ a w', P (.threw a) w' → fxRt G nL x Q w' pc ls st a) : fxR G nL x Q w pc ls (a2 :: a1 :: a0 :: .ref b :: st) := r_callV (As := [a0, a1, a2]) (Cn := "ForkPool") (ci := 0) C hd lm_Lw_17 (fxTW_in 284 (by decide +kernel) rfl) (fxTW_in 285 (by decide +kernel) rfl) w_FP_set ini_ForkPool (by decide) np_FP_set (by decide) (by decide) rfl hb9 hM hdd hst rfl k1 k2
theorem lm_Lw_23 : Cond.methodLink "ForkPoolLaw" 23 y_FP_get ∈ fxTW := fxTW_in 327 (by decide +kernel) rfl
theorem c_Lw_23 {G : fxG} {d nL : Nat} {cc : ByteArray} {nm : String} {ret : Option FieldType} {hh : List (Nat × Nat × Nat × Nat)} {x : fxX} {Q : State → Prop} {w : fxW} {pc : Nat} {ls : List (Nat × Value)} {st : List Value} (C : fxC G d cc nL "ForkPoolLaw" nm ret hh x) {b n0 d' : Nat} {a0 a1 : Value} {P : Outcome → fxW → Prop} (hd : decode cc pc = .ok (.invokevirtual 23, 3)) (hb9 : fxk w b = some (0, n0)) (hM : fxM G d' y_FP_get (.ref b :: [a0, a1]) w P) (hdd : d' < d) (hst : (st.map fun v => v.category).sum ≤ 8) (k1 : ∀ v w', P (.returned v) w' → fxR G nL x Q w' (pc + 3) ls (v.toList ++ st)) (k2 : ∀ a w', P (.threw a) w' → fxRt G nL x Q w' pc ls st a) : fxR G nL x Q w pc ls (a1 :: a0 :: .ref b :: st) := r_callV (As := [a0, a1]) (Cn := "ForkPool") (ci := 0) C hd lm_Lw_23 (fxTW_in 328 (by decide +kernel) rfl) (fxTW_in 329 (by decide +kernel) rfl) w_FP_get ini_ForkPool (by decide) np_FP_get (by decide) (by decide) rfl hb9 hM hdd hst rfl k1 k2
theorem lm_Lw_27 : Cond.methodLink "ForkPoolLaw" 27 y_FP_begin ∈ fxTW := fxTW_in 334 (by decide +kernel) rfl
theorem c_Lw_27 {G : fxG} {d nL : Nat} {cc : ByteArray} {nm : String} {ret : Option FieldType} {hh : List (Nat × Nat × Nat × Nat)} {x : fxX} {Q : State → Prop} {w : fxW} {pc : Nat} {ls : List (Nat × Value)} {st : List Value} (C : fxC G d cc nL "ForkPoolLaw" nm ret hh x) {b n0 d' : Nat} {a0 a1 a2 a3 a4 : Value} {P : Outcome → fxW → Prop} (hd : decode cc pc = .ok (.invokevirtual 27, 3)) (hb9 : fxk w b = some (0, n0)) (hM : fxM G d' y_FP_begin (.ref b :: [a0, a1, a2, a3, a4]) w P) (hdd : d' < d) (hst : (st.map fun v => v.category).sum ≤ 8) (k1 : ∀ v w', P (.returned v) w' → fxR G nL x Q w' (pc + 3) ls (v.toList ++ st)) (k2 : ∀ a w', P (.threw a) w' → fxRt G nL x Q w' pc ls st a) : fxR G nL x Q w pc ls (a4 :: a3 :: a2 :: a1 :: a0 :: .ref b :: st) := r_callV (As := [a0, a1, a2, a3, a4]) (Cn := "ForkPool") (ci := 0) C hd lm_Lw_27 (fxTW_in 335 (by decide +kernel) rfl) (fxTW_in 336 (by decide +kernel) rfl) w_FP_begin ini_ForkPool (by decide) np_FP_begin (by decide) (by decide) rfl hb9 hM hdd hst rfl k1 k2
theorem lm_Lw_31 : Cond.methodLink "ForkPoolLaw" 31 y_FP_step ∈ fxTW := fxTW_in 495 (by decide +kernel) rfl
theorem c_Lw_31 {G : fxG} {d nL : Nat} {cc : ByteArray} {nm : String} {ret : Option FieldType} {hh : List (Nat × Nat × Nat × Nat)} {x : fxX} {Q : State → Prop} {w : fxW} {pc : Nat} {ls : List (Nat × Value)} {st : List Value} (C : fxC G d cc nL "ForkPoolLaw" nm ret hh x) {b n0 d' : Nat} {a0 : Value} {P : Outcome → fxW → Prop} (hd : decode cc pc = .ok (.invokevirtual 31, 3)) (hb9 : fxk w b = some (0, n0)) (hM : fxM G d' y_FP_step (.ref b :: [a0]) w P) (hdd : d' < d) (hst : (st.map fun v => v.category).sum ≤ 8) (k1 : ∀ v w', P (.returned v) w' → fxR G nL x Q w' (pc + 3) ls (v.toList ++ st)) (k2 : ∀ a w', P (.threw a) w' → fxRt G nL x Q w' pc ls st a) : fxR G nL x Q w pc ls (a0 :: .ref b :: st) := r_callV (As := [a0]) (Cn := "ForkPool") (ci := 0) C hd lm_Lw_31 (fxTW_in 496 (by decide +kernel) rfl) (fxTW_in 497 (by decide +kernel) rfl) w_FP_step ini_ForkPool (by decide) np_FP_step (by decide) (by decide) rfl hb9 hM hdd hst rfl k1 k2
theorem lm_Lw_35 : Cond.methodLink "ForkPoolLaw" 35 y_FP_join ∈ fxTW := fxTW_in 632 (by decide +kernel) rfl
theorem c_Lw_35 {G : fxG} {d nL : Nat} {cc : ByteArray} {nm : String} {ret : Option FieldType} {hh : List (Nat × Nat × Nat × Nat)} {x : fxX} {Q : State → Prop} {w : fxW} {pc : Nat} {ls : List (Nat × Value)} {st : List Value} (C : fxC G d cc nL "ForkPoolLaw" nm ret hh x) {b n0 d' : Nat} {a0 : Value} {P : Outcome → fxW → Prop} (hd : decode cc pc = .ok (.invokevirtual 35, 3)) (hb9 : fxk w b = some (0, n0)) (hM : fxM G d' y_FP_join (.ref b :: [a0]) w P) (hdd : d' < d) (hst : (st.map fun v => v.category).sum ≤ 8) (k1 : ∀ v w', P (.returned v) w' → fxR G nL x Q w' (pc + 3) ls (v.toList ++ st)) (k2 : ∀ a w', P (.threw a) w' → fxRt G nL x Q w' pc ls st a) : fxR G nL x Q w pc ls (a0 :: .ref b :: st) := r_callV (As := [a0]) (Cn := "ForkPool") (ci := 0) C hd lm_Lw_35 (fxTW_in 633 (by decide +kernel) rfl) (fxTW_in 634 (by decide +kernel) rfl) w_FP_join ini_ForkPool (by decide) np_FP_join (by decide) (by decide) rfl hb9 hM hdd hst rfl k1 k2
theorem lm_Lw_40 : Cond.methodLink "ForkPoolLaw" 40 y_FP_result ∈ fxTW := fxTW_in 662 (by decide +kernel) rfl
theorem c_Lw_40 {G : fxG} {d nL : Nat} {cc : ByteArray} {nm : String} {ret : Option FieldType} {hh : List (Nat × Nat × Nat × Nat)} {x : fxX} {Q : State → Prop} {w : fxW} {pc : Nat} {ls : List (Nat × Value)} {st : List Value} (C : fxC G d cc nL "ForkPoolLaw" nm ret hh x) {b n0 d' : Nat} {a0 : Value} {P : Outcome → fxW → Prop} (hd : decode cc pc = .ok (.invokevirtual 40, 3)) (hb9 : fxk w b = some (0, n0)) (hM : fxM G d' y_FP_result (.ref b :: [a0]) w P) (hdd : d' < d) (hst : (st.map fun v => v.category).sum ≤ 8) (k1 : ∀ v w', P (.returned v) w' → fxR G nL x Q w' (pc + 3) ls (v.toList ++ st)) (k2 : ∀ a w', P (.threw a) w' → fxRt G nL x Q w' pc ls st a) : fxR G nL x Q w pc ls (a0 :: .ref b :: st) := r_callV (As := [a0]) (Cn := "ForkPool") (ci := 0) C hd lm_Lw_40 (fxTW_in 663 (by decide +kernel) rfl) (fxTW_in 664 (by decide +kernel) rfl) w_FP_result ini_ForkPool (by decide) np_FP_result (by decide) (by decide) rfl hb9 hM hdd hst rfl k1 k2
theorem lm_Lw_46 : Cond.methodLink "ForkPoolLaw" 46 y_FP_cancel ∈ fxTW := fxTW_in 686 (by decide +kernel) rfl
theorem c_Lw_46 {G : fxG} {d nL : Nat} {cc : ByteArray} {nm : String} {ret : Option FieldType} {hh : List (Nat × Nat × Nat × Nat)} {x : fxX} {Q : State → Prop} {w : fxW} {pc : Nat} {ls : List (Nat × Value)} {st : List Value} (C : fxC G d cc nL "ForkPoolLaw" nm ret hh x) {b n0 d' : Nat} {a0 : Value} {P : Outcome → fxW → Prop} (hd : decode cc pc = .ok (.invokevirtual 46, 3)) (hb9 : fxk w b = some (0, n0)) (hM : fxM G d' y_FP_cancel (.ref b :: [a0]) w P) (hdd : d' < d) (hst : (st.map fun v => v.category).sum ≤ 8) (k1 : ∀ v w', P (.returned v) w' → fxR G nL x Q w' (pc + 3) ls (v.toList ++ st)) (k2 : ∀ a w', P (.threw a) w' → fxRt G nL x Q w' pc ls st a) : fxR G nL x Q w pc ls (a0 :: .ref b :: st) := r_callV (As := [a0]) (Cn := "ForkPool") (ci := 0) C hd lm_Lw_46 (fxTW_in 687 (by decide +kernel) rfl) (fxTW_in 688 (by decide +kernel) rfl) w_FP_cancel ini_ForkPool (by decide) np_FP_cancel (by decide) (by decide) rfl hb9 hM hdd hst rfl k1 k2
theorem lm_Lw_49 : Cond.methodLink "ForkPoolLaw" 49 y_FP_job ∈ fxTW := fxTW_in 702 (by decide +kernel) rfl
theorem c_Lw_49 {G : fxG} {d nL : Nat} {cc : ByteArray} {nm : String} {ret : Option FieldType} {hh : List (Nat × Nat × Nat × Nat)} {x : fxX} {Q : State → Prop} {w : fxW} {pc : Nat} {ls : List (Nat × Value)} {st : List Value} (C : fxC G d cc nL "ForkPoolLaw" nm ret hh x) {b n0 d' : Nat} {a0 a1 : Value} {P : Outcome → fxW → Prop} (hd : decode cc pc = .ok (.invokevirtual 49, 3)) (hb9 : fxk w b = some (0, n0)) (hM : fxM G d' y_FP_job (.ref b :: [a0, a1]) w P) (hdd : d' < d) (hst : (st.map fun v => v.category).sum ≤ 8) (k1 : ∀ v w', P (.returned v) w' → fxR G nL x Q w' (pc + 3) ls (v.toList ++ st)) (k2 : ∀ a w', P (.threw a) w' → fxRt G nL x Q w' pc ls st a) : fxR G nL x Q w pc ls (a1 :: a0 :: .ref b :: st) := r_callV (As := [a0, a1]) (Cn := "ForkPool") (ci := 0) C hd lm_Lw_49 (fxTW_in 703 (by decide +kernel) rfl) (fxTW_in 704 (by decide +kernel) rfl) w_FP_job ini_ForkPool (by decide) np_FP_job (by decide) (by decide) rfl hb9 hM hdd hst rfl k1 k2
theorem lm_Lw_53 : Cond.methodLink "ForkPoolLaw" 53 y_FP_task ∈ fxTW := fxTW_in 710 (by decide +kernel) rfl
theorem c_Lw_53 {G : fxG} {d nL : Nat} {cc : ByteArray} {nm : String} {ret : Option FieldType} {hh : List (Nat × Nat × Nat × Nat)} {x : fxX} {Q : State → Prop} {w : fxW} {pc : Nat} {ls : List (Nat × Value)} {st : List Value} (C : fxC G d cc nL "ForkPoolLaw" nm ret hh x) {b n0 d' : Nat} {a0 a1 a2 : Value} {P : Outcome → fxW → Prop} (hd : decode cc pc = .ok (.invokevirtual 53, 3)) (hb9 : fxk w b = some (0, n0)) (hM : fxM G d' y_FP_task (.ref b :: [a0, a1, a2]) w P) (hdd : d' < d) (hst : (st.map fun v => v.category).sum ≤ 8) (k1 : ∀ v w', P (.returned v) w' → fxR G nL x Q w' (pc + 3) ls (v.toList ++ st)) (k2 : ∀ a w', P (.threw a) w' → fxRt G nL x Q w' pc ls st a) : fxR G nL x Q w pc ls (a2 :: a1 :: a0 :: .ref b :: st) := r_callV (As := [a0, a1, a2]) (Cn := "ForkPool") (ci := 0) C hd lm_Lw_53 (fxTW_in 711 (by decide +kernel) rfl) (fxTW_in 712 (by decide +kernel) rfl) w_FP_task ini_ForkPool (by decide) np_FP_task (by decide) (by decide) rfl hb9 hM hdd hst rfl k1 k2
theorem lm_Lw_56 : Cond.methodLink "ForkPoolLaw" 56 y_FP_worker ∈ fxTW := fxTW_in 728 (by decide +kernel) rfl
theorem c_Lw_56 {G : fxG} {d nL : Nat} {cc : ByteArray} {nm : String} {ret : Option FieldType} {hh : List (Nat × Nat × Nat × Nat)} {x : fxX} {Q : State → Prop} {w : fxW} {pc : Nat} {ls : List (Nat × Value)} {st : List Value} (C : fxC G d cc nL "ForkPoolLaw" nm ret hh x) {b n0 d' : Nat} {a0 a1 : Value} {P : Outcome → fxW → Prop} (hd : decode cc pc = .ok (.invokevirtual 56, 3)) (hb9 : fxk w b = some (0, n0)) (hM : fxM G d' y_FP_worker (.ref b :: [a0, a1]) w P) (hdd : d' < d) (hst : (st.map fun v => v.category).sum ≤ 8) (k1 : ∀ v w', P (.returned v) w' → fxR G nL x Q w' (pc + 3) ls (v.toList ++ st)) (k2 : ∀ a w', P (.threw a) w' → fxRt G nL x Q w' pc ls st a) : fxR G nL x Q w pc ls (a1 :: a0 :: .ref b :: st) := r_callV (As := [a0, a1]) (Cn := "ForkPool") (ci := 0) C hd lm_Lw_56 (fxTW_in 729 (by decide +kernel) rfl) (fxTW_in 730 (by decide +kernel) rfl) w_FP_worker ini_ForkPool (by decide) np_FP_worker (by decide) (by decide) rfl hb9 hM hdd hst rfl k1 k2
theorem lm_Lw_59 : Cond.methodLink "ForkPoolLaw" 59 y_FP_grain ∈ fxTW := fxTW_in 736 (by decide +kernel) rfl
theorem c_Lw_59 {G : fxG} {d nL : Nat} {cc : ByteArray} {nm : String} {ret : Option FieldType} {hh : List (Nat × Nat × Nat × Nat)} {x : fxX} {Q : State → Prop} {w : fxW} {pc : Nat} {ls : List (Nat × Value)} {st : List Value} (C : fxC G d cc nL "ForkPoolLaw" nm ret hh x) {b n0 d' : Nat} {a0 : Value} {P : Outcome → fxW → Prop} (hd : decode cc pc = .ok (.invokevirtual 59, 3)) (hb9 : fxk w b = some (0, n0)) (hM : fxM G d' y_FP_grain (.ref b :: [a0]) w P) (hdd : d' < d) (hst : (st.map fun v => v.category).sum ≤ 8) (k1 : ∀ v w', P (.returned v) w' → fxR G nL x Q w' (pc + 3) ls (v.toList ++ st)) (k2 : ∀ a w', P (.threw a) w' → fxRt G nL x Q w' pc ls st a) : fxR G nL x Q w pc ls (a0 :: .ref b :: st) := r_callV (As := [a0]) (Cn := "ForkPool") (ci := 0) C hd lm_Lw_59 (fxTW_in 737 (by decide +kernel) rfl) (fxTW_in 738 (by decide +kernel) rfl) w_FP_grain ini_ForkPool (by decide) np_FP_grain (by decide) (by decide) rfl hb9 hM hdd hst rfl k1 k2
theorem lm_Lw_62 : Cond.methodLink "ForkPoolLaw" 62 y_FP_count ∈ fxTW := fxTW_in 744 (by decide +kernel) rfl
theorem c_Lw_62 {G : fxG} {d nL : Nat} {cc : ByteArray} {nm : String} {ret : Option FieldType} {hh : List (Nat × Nat × Nat × Nat)} {x : fxX} {Q : State → Prop} {w : fxW} {pc : Nat} {ls : List (Nat × Value)} {st : List Value} (C : fxC G d cc nL "ForkPoolLaw" nm ret hh x) {b n0 d' : Nat} {a0 : Value} {P : Outcome → fxW → Prop} (hd : decode cc pc = .ok (.invokevirtual 62, 3)) (hb9 : fxk w b = some (0, n0)) (hM : fxM G d' y_FP_count (.ref b :: [a0]) w P) (hdd : d' < d) (hst : (st.map fun v => v.category).sum ≤ 8) (k1 : ∀ v w', P (.returned v) w' → fxR G nL x Q w' (pc + 3) ls (v.toList ++ st)) (k2 : ∀ a w', P (.threw a) w' → fxRt G nL x Q w' pc ls st a) : fxR G nL x Q w pc ls (a0 :: .ref b :: st) := r_callV (As := [a0]) (Cn := "ForkPool") (ci := 0) C hd lm_Lw_62 (fxTW_in 745 (by decide +kernel) rfl) (fxTW_in 746 (by decide +kernel) rfl) w_FP_count ini_ForkPool (by decide) np_FP_count (by decide) (by decide) rfl hb9 hM hdd hst rfl k1 k2
theorem lm_Lw_80 : Cond.methodLink "ForkPoolLaw" 80 y_Mo_array ∈ fxTW := fxTW_in 860 (by decide +kernel) rfl
theorem c_Lw_80 {G : fxG} {d nL : Nat} {cc : ByteArray} {nm : String} {ret : Option FieldType} {hh : List (Nat × Nat × Nat × Nat)} {x : fxX} {Q : State → Prop} {w : fxW} {pc : Nat} {ls : List (Nat × Value)} {st : List Value} (C : fxC G d cc nL "ForkPoolLaw" nm ret hh x) {b n0 d' : Nat} {a0 a1 a2 : Value} {P : Outcome → fxW → Prop} (hd : decode cc pc = .ok (.invokevirtual 80, 3)) (hb9 : fxk w b = some (6, n0)) (hM : fxM G d' y_Mo_array (.ref b :: [a0, a1, a2]) w P) (hdd : d' < d) (hst : (st.map fun v => v.category).sum ≤ 8) (k1 : ∀ v w', P (.returned v) w' → fxR G nL x Q w' (pc + 3) ls (v.toList ++ st)) (k2 : ∀ a w', P (.threw a) w' → fxRt G nL x Q w' pc ls st a) : fxR G nL x Q w pc ls (a2 :: a1 :: a0 :: .ref b :: st) := r_callV (As := [a0, a1, a2]) (Cn := "ForkPoolModel") (ci := 6) C hd lm_Lw_80 (fxTW_in 861 (by decide +kernel) rfl) (fxTW_in 862 (by decide +kernel) rfl) w_Mo_array ini_ForkPoolModel (by decide) np_Mo_array (by decide) (by decide) rfl hb9 hM hdd hst rfl k1 k2
theorem lm_Lw_81 : Cond.methodLink "ForkPoolLaw" 81 y_Mo_thrown ∈ fxTW := fxTW_in 856 (by decide +kernel) rfl
theorem c_Lw_81 {G : fxG} {d nL : Nat} {cc : ByteArray} {nm : String} {ret : Option FieldType} {hh : List (Nat × Nat × Nat × Nat)} {x : fxX} {Q : State → Prop} {w : fxW} {pc : Nat} {ls : List (Nat × Value)} {st : List Value} (C : fxC G d cc nL "ForkPoolLaw" nm ret hh x) {b n0 d' : Nat} {P : Outcome → fxW → Prop} (hd : decode cc pc = .ok (.invokevirtual 81, 3)) (hb9 : fxk w b = some (6, n0)) (hM : fxM G d' y_Mo_thrown (.ref b :: []) w P) (hdd : d' < d) (hst : (st.map fun v => v.category).sum ≤ 8) (k1 : ∀ v w', P (.returned v) w' → fxR G nL x Q w' (pc + 3) ls (v.toList ++ st)) (k2 : ∀ a w', P (.threw a) w' → fxRt G nL x Q w' pc ls st a) : fxR G nL x Q w pc ls (.ref b :: st) := r_callV (As := []) (Cn := "ForkPoolModel") (ci := 6) C hd lm_Lw_81 (fxTW_in 857 (by decide +kernel) rfl) (fxTW_in 858 (by decide +kernel) rfl) w_Mo_thrown ini_ForkPoolModel (by decide) np_Mo_thrown (by decide) (by decide) rfl hb9 hM hdd hst rfl k1 k2
theorem lm_Lw_90 : Cond.methodLink "ForkPoolLaw" 90 y_Mo_set ∈ fxTW := fxTW_in 875 (by decide +kernel) rfl
theorem c_Lw_90 {G : fxG} {d nL : Nat} {cc : ByteArray} {nm : String} {ret : Option FieldType} {hh : List (Nat × Nat × Nat × Nat)} {x : fxX} {Q : State → Prop} {w : fxW} {pc : Nat} {ls : List (Nat × Value)} {st : List Value} (C : fxC G d cc nL "ForkPoolLaw" nm ret hh x) {b n0 d' : Nat} {a0 a1 a2 : Value} {P : Outcome → fxW → Prop} (hd : decode cc pc = .ok (.invokevirtual 90, 3)) (hb9 : fxk w b = some (6, n0)) (hM : fxM G d' y_Mo_set (.ref b :: [a0, a1, a2]) w P) (hdd : d' < d) (hst : (st.map fun v => v.category).sum ≤ 8) (k1 : ∀ v w', P (.returned v) w' → fxR G nL x Q w' (pc + 3) ls (v.toList ++ st)) (k2 : ∀ a w', P (.threw a) w' → fxRt G nL x Q w' pc ls st a) : fxR G nL x Q w pc ls (a2 :: a1 :: a0 :: .ref b :: st) := r_callV (As := [a0, a1, a2]) (Cn := "ForkPoolModel") (ci := 6) C hd lm_Lw_90 (fxTW_in 876 (by decide +kernel) rfl) (fxTW_in 877 (by decide +kernel) rfl) w_Mo_set ini_ForkPoolModel (by decide) np_Mo_set (by decide) (by decide) rfl hb9 hM hdd hst rfl k1 k2
theorem lm_Lw_94 : Cond.methodLink "ForkPoolLaw" 94 y_Mo_get ∈ fxTW := fxTW_in 888 (by decide +kernel) rfl
theorem c_Lw_94 {G : fxG} {d nL : Nat} {cc : ByteArray} {nm : String} {ret : Option FieldType} {hh : List (Nat × Nat × Nat × Nat)} {x : fxX} {Q : State → Prop} {w : fxW} {pc : Nat} {ls : List (Nat × Value)} {st : List Value} (C : fxC G d cc nL "ForkPoolLaw" nm ret hh x) {b n0 d' : Nat} {a0 a1 : Value} {P : Outcome → fxW → Prop} (hd : decode cc pc = .ok (.invokevirtual 94, 3)) (hb9 : fxk w b = some (6, n0)) (hM : fxM G d' y_Mo_get (.ref b :: [a0, a1]) w P) (hdd : d' < d) (hst : (st.map fun v => v.category).sum ≤ 8) (k1 : ∀ v w', P (.returned v) w' → fxR G nL x Q w' (pc + 3) ls (v.toList ++ st)) (k2 : ∀ a w', P (.threw a) w' → fxRt G nL x Q w' pc ls st a) : fxR G nL x Q w pc ls (a1 :: a0 :: .ref b :: st) := r_callV (As := [a0, a1]) (Cn := "ForkPoolModel") (ci := 6) C hd lm_Lw_94 (fxTW_in 889 (by decide +kernel) rfl) (fxTW_in 890 (by decide +kernel) rfl) w_Mo_get ini_ForkPoolModel (by decide) np_Mo_get (by decide) (by decide) rfl hb9 hM hdd hst rfl k1 k2
theorem lm_Lw_98 : Cond.methodLink "ForkPoolLaw" 98 y_Mo_begin ∈ fxTW := fxTW_in 892 (by decide +kernel) rfl
theorem c_Lw_98 {G : fxG} {d nL : Nat} {cc : ByteArray} {nm : String} {ret : Option FieldType} {hh : List (Nat × Nat × Nat × Nat)} {x : fxX} {Q : State → Prop} {w : fxW} {pc : Nat} {ls : List (Nat × Value)} {st : List Value} (C : fxC G d cc nL "ForkPoolLaw" nm ret hh x) {b n0 d' : Nat} {a0 a1 a2 a3 a4 : Value} {P : Outcome → fxW → Prop} (hd : decode cc pc = .ok (.invokevirtual 98, 3)) (hb9 : fxk w b = some (6, n0)) (hM : fxM G d' y_Mo_begin (.ref b :: [a0, a1, a2, a3, a4]) w P) (hdd : d' < d) (hst : (st.map fun v => v.category).sum ≤ 8) (k1 : ∀ v w', P (.returned v) w' → fxR G nL x Q w' (pc + 3) ls (v.toList ++ st)) (k2 : ∀ a w', P (.threw a) w' → fxRt G nL x Q w' pc ls st a) : fxR G nL x Q w pc ls (a4 :: a3 :: a2 :: a1 :: a0 :: .ref b :: st) := r_callV (As := [a0, a1, a2, a3, a4]) (Cn := "ForkPoolModel") (ci := 6) C hd lm_Lw_98 (fxTW_in 893 (by decide +kernel) rfl) (fxTW_in 894 (by decide +kernel) rfl) w_Mo_begin ini_ForkPoolModel (by decide) np_Mo_begin (by decide) (by decide) rfl hb9 hM hdd hst rfl k1 k2
theorem lm_Lw_102 : Cond.methodLink "ForkPoolLaw" 102 y_Mo_step ∈ fxTW := fxTW_in 904 (by decide +kernel) rfl
theorem c_Lw_102 {G : fxG} {d nL : Nat} {cc : ByteArray} {nm : String} {ret : Option FieldType} {hh : List (Nat × Nat × Nat × Nat)} {x : fxX} {Q : State → Prop} {w : fxW} {pc : Nat} {ls : List (Nat × Value)} {st : List Value} (C : fxC G d cc nL "ForkPoolLaw" nm ret hh x) {b n0 d' : Nat} {a0 : Value} {P : Outcome → fxW → Prop} (hd : decode cc pc = .ok (.invokevirtual 102, 3)) (hb9 : fxk w b = some (6, n0)) (hM : fxM G d' y_Mo_step (.ref b :: [a0]) w P) (hdd : d' < d) (hst : (st.map fun v => v.category).sum ≤ 8) (k1 : ∀ v w', P (.returned v) w' → fxR G nL x Q w' (pc + 3) ls (v.toList ++ st)) (k2 : ∀ a w', P (.threw a) w' → fxRt G nL x Q w' pc ls st a) : fxR G nL x Q w pc ls (a0 :: .ref b :: st) := r_callV (As := [a0]) (Cn := "ForkPoolModel") (ci := 6) C hd lm_Lw_102 (fxTW_in 905 (by decide +kernel) rfl) (fxTW_in 906 (by decide +kernel) rfl) w_Mo_step ini_ForkPoolModel (by decide) np_Mo_step (by decide) (by decide) rfl hb9 hM hdd hst rfl k1 k2
theorem lm_Lw_105 : Cond.methodLink "ForkPoolLaw" 105 y_Mo_join ∈ fxTW := fxTW_in 965 (by decide +kernel) rfl
theorem c_Lw_105 {G : fxG} {d nL : Nat} {cc : ByteArray} {nm : String} {ret : Option FieldType} {hh : List (Nat × Nat × Nat × Nat)} {x : fxX} {Q : State → Prop} {w : fxW} {pc : Nat} {ls : List (Nat × Value)} {st : List Value} (C : fxC G d cc nL "ForkPoolLaw" nm ret hh x) {b n0 d' : Nat} {a0 : Value} {P : Outcome → fxW → Prop} (hd : decode cc pc = .ok (.invokevirtual 105, 3)) (hb9 : fxk w b = some (6, n0)) (hM : fxM G d' y_Mo_join (.ref b :: [a0]) w P) (hdd : d' < d) (hst : (st.map fun v => v.category).sum ≤ 8) (k1 : ∀ v w', P (.returned v) w' → fxR G nL x Q w' (pc + 3) ls (v.toList ++ st)) (k2 : ∀ a w', P (.threw a) w' → fxRt G nL x Q w' pc ls st a) : fxR G nL x Q w pc ls (a0 :: .ref b :: st) := r_callV (As := [a0]) (Cn := "ForkPoolModel") (ci := 6) C hd lm_Lw_105 (fxTW_in 966 (by decide +kernel) rfl) (fxTW_in 967 (by decide +kernel) rfl) w_Mo_join ini_ForkPoolModel (by decide) np_Mo_join (by decide) (by decide) rfl hb9 hM hdd hst rfl k1 k2
theorem lm_Lw_108 : Cond.methodLink "ForkPoolLaw" 108 y_Mo_result ∈ fxTW := fxTW_in 973 (by decide +kernel) rfl
theorem c_Lw_108 {G : fxG} {d nL : Nat} {cc : ByteArray} {nm : String} {ret : Option FieldType} {hh : List (Nat × Nat × Nat × Nat)} {x : fxX} {Q : State → Prop} {w : fxW} {pc : Nat} {ls : List (Nat × Value)} {st : List Value} (C : fxC G d cc nL "ForkPoolLaw" nm ret hh x) {b n0 d' : Nat} {a0 : Value} {P : Outcome → fxW → Prop} (hd : decode cc pc = .ok (.invokevirtual 108, 3)) (hb9 : fxk w b = some (6, n0)) (hM : fxM G d' y_Mo_result (.ref b :: [a0]) w P) (hdd : d' < d) (hst : (st.map fun v => v.category).sum ≤ 8) (k1 : ∀ v w', P (.returned v) w' → fxR G nL x Q w' (pc + 3) ls (v.toList ++ st)) (k2 : ∀ a w', P (.threw a) w' → fxRt G nL x Q w' pc ls st a) : fxR G nL x Q w pc ls (a0 :: .ref b :: st) := r_callV (As := [a0]) (Cn := "ForkPoolModel") (ci := 6) C hd lm_Lw_108 (fxTW_in 974 (by decide +kernel) rfl) (fxTW_in 975 (by decide +kernel) rfl) w_Mo_result ini_ForkPoolModel (by decide) np_Mo_result (by decide) (by decide) rfl hb9 hM hdd hst rfl k1 k2
theorem lm_Lw_111 : Cond.methodLink "ForkPoolLaw" 111 y_Mo_cancel ∈ fxTW := fxTW_in 977 (by decide +kernel) rfl
theorem c_Lw_111 {G : fxG} {d nL : Nat} {cc : ByteArray} {nm : String} {ret : Option FieldType} {hh : List (Nat × Nat × Nat × Nat)} {x : fxX} {Q : State → Prop} {w : fxW} {pc : Nat} {ls : List (Nat × Value)} {st : List Value} (C : fxC G d cc nL "ForkPoolLaw" nm ret hh x) {b n0 d' : Nat} {a0 : Value} {P : Outcome → fxW → Prop} (hd : decode cc pc = .ok (.invokevirtual 111, 3)) (hb9 : fxk w b = some (6, n0)) (hM : fxM G d' y_Mo_cancel (.ref b :: [a0]) w P) (hdd : d' < d) (hst : (st.map fun v => v.category).sum ≤ 8) (k1 : ∀ v w', P (.returned v) w' → fxR G nL x Q w' (pc + 3) ls (v.toList ++ st)) (k2 : ∀ a w', P (.threw a) w' → fxRt G nL x Q w' pc ls st a) : fxR G nL x Q w pc ls (a0 :: .ref b :: st) := r_callV (As := [a0]) (Cn := "ForkPoolModel") (ci := 6) C hd lm_Lw_111 (fxTW_in 978 (by decide +kernel) rfl) (fxTW_in 979 (by decide +kernel) rfl) w_Mo_cancel ini_ForkPoolModel (by decide) np_Mo_cancel (by decide) (by decide) rfl hb9 hM hdd hst rfl k1 k2
theorem lm_Lw_114 : Cond.methodLink "ForkPoolLaw" 114 y_Mo_job ∈ fxTW := fxTW_in 985 (by decide +kernel) rfl
theorem c_Lw_114 {G : fxG} {d nL : Nat} {cc : ByteArray} {nm : String} {ret : Option FieldType} {hh : List (Nat × Nat × Nat × Nat)} {x : fxX} {Q : State → Prop} {w : fxW} {pc : Nat} {ls : List (Nat × Value)} {st : List Value} (C : fxC G d cc nL "ForkPoolLaw" nm ret hh x) {b n0 d' : Nat} {a0 a1 : Value} {P : Outcome → fxW → Prop} (hd : decode cc pc = .ok (.invokevirtual 114, 3)) (hb9 : fxk w b = some (6, n0)) (hM : fxM G d' y_Mo_job (.ref b :: [a0, a1]) w P) (hdd : d' < d) (hst : (st.map fun v => v.category).sum ≤ 8) (k1 : ∀ v w', P (.returned v) w' → fxR G nL x Q w' (pc + 3) ls (v.toList ++ st)) (k2 : ∀ a w', P (.threw a) w' → fxRt G nL x Q w' pc ls st a) : fxR G nL x Q w pc ls (a1 :: a0 :: .ref b :: st) := r_callV (As := [a0, a1]) (Cn := "ForkPoolModel") (ci := 6) C hd lm_Lw_114 (fxTW_in 986 (by decide +kernel) rfl) (fxTW_in 987 (by decide +kernel) rfl) w_Mo_job ini_ForkPoolModel (by decide) np_Mo_job (by decide) (by decide) rfl hb9 hM hdd hst rfl k1 k2
theorem lm_Lw_117 : Cond.methodLink "ForkPoolLaw" 117 y_Mo_task ∈ fxTW := fxTW_in 989 (by decide +kernel) rfl
theorem c_Lw_117 {G : fxG} {d nL : Nat} {cc : ByteArray} {nm : String} {ret : Option FieldType} {hh : List (Nat × Nat × Nat × Nat)} {x : fxX} {Q : State → Prop} {w : fxW} {pc : Nat} {ls : List (Nat × Value)} {st : List Value} (C : fxC G d cc nL "ForkPoolLaw" nm ret hh x) {b n0 d' : Nat} {a0 a1 a2 : Value} {P : Outcome → fxW → Prop} (hd : decode cc pc = .ok (.invokevirtual 117, 3)) (hb9 : fxk w b = some (6, n0)) (hM : fxM G d' y_Mo_task (.ref b :: [a0, a1, a2]) w P) (hdd : d' < d) (hst : (st.map fun v => v.category).sum ≤ 8) (k1 : ∀ v w', P (.returned v) w' → fxR G nL x Q w' (pc + 3) ls (v.toList ++ st)) (k2 : ∀ a w', P (.threw a) w' → fxRt G nL x Q w' pc ls st a) : fxR G nL x Q w pc ls (a2 :: a1 :: a0 :: .ref b :: st) := r_callV (As := [a0, a1, a2]) (Cn := "ForkPoolModel") (ci := 6) C hd lm_Lw_117 (fxTW_in 990 (by decide +kernel) rfl) (fxTW_in 991 (by decide +kernel) rfl) w_Mo_task ini_ForkPoolModel (by decide) np_Mo_task (by decide) (by decide) rfl hb9 hM hdd hst rfl k1 k2
theorem lm_Lw_120 : Cond.methodLink "ForkPoolLaw" 120 y_Mo_worker ∈ fxTW := fxTW_in 993 (by decide +kernel) rfl
theorem c_Lw_120 {G : fxG} {d nL : Nat} {cc : ByteArray} {nm : String} {ret : Option FieldType} {hh : List (Nat × Nat × Nat × Nat)} {x : fxX} {Q : State → Prop} {w : fxW} {pc : Nat} {ls : List (Nat × Value)} {st : List Value} (C : fxC G d cc nL "ForkPoolLaw" nm ret hh x) {b n0 d' : Nat} {a0 a1 : Value} {P : Outcome → fxW → Prop} (hd : decode cc pc = .ok (.invokevirtual 120, 3)) (hb9 : fxk w b = some (6, n0)) (hM : fxM G d' y_Mo_worker (.ref b :: [a0, a1]) w P) (hdd : d' < d) (hst : (st.map fun v => v.category).sum ≤ 8) (k1 : ∀ v w', P (.returned v) w' → fxR G nL x Q w' (pc + 3) ls (v.toList ++ st)) (k2 : ∀ a w', P (.threw a) w' → fxRt G nL x Q w' pc ls st a) : fxR G nL x Q w pc ls (a1 :: a0 :: .ref b :: st) := r_callV (As := [a0, a1]) (Cn := "ForkPoolModel") (ci := 6) C hd lm_Lw_120 (fxTW_in 994 (by decide +kernel) rfl) (fxTW_in 995 (by decide +kernel) rfl) w_Mo_worker ini_ForkPoolModel (by decide) np_Mo_worker (by decide) (by decide) rfl hb9 hM hdd hst rfl k1 k2
theorem lm_Lw_123 : Cond.methodLink "ForkPoolLaw" 123 y_Mo_grain ∈ fxTW := fxTW_in 997 (by decide +kernel) rfl
theorem c_Lw_123 {G : fxG} {d nL : Nat} {cc : ByteArray} {nm : String} {ret : Option FieldType} {hh : List (Nat × Nat × Nat × Nat)} {x : fxX} {Q : State → Prop} {w : fxW} {pc : Nat} {ls : List (Nat × Value)} {st : List Value} (C : fxC G d cc nL "ForkPoolLaw" nm ret hh x) {b n0 d' : Nat} {a0 : Value} {P : Outcome → fxW → Prop} (hd : decode cc pc = .ok (.invokevirtual 123, 3)) (hb9 : fxk w b = some (6, n0)) (hM : fxM G d' y_Mo_grain (.ref b :: [a0]) w P) (hdd : d' < d) (hst : (st.map fun v => v.category).sum ≤ 8) (k1 : ∀ v w', P (.returned v) w' → fxR G nL x Q w' (pc + 3) ls (v.toList ++ st)) (k2 : ∀ a w', P (.threw a) w' → fxRt G nL x Q w' pc ls st a) : fxR G nL x Q w pc ls (a0 :: .ref b :: st) := r_callV (As := [a0]) (Cn := "ForkPoolModel") (ci := 6) C hd lm_Lw_123 (fxTW_in 998 (by decide +kernel) rfl) (fxTW_in 999 (by decide +kernel) rfl) w_Mo_grain ini_ForkPoolModel (by decide) np_Mo_grain (by decide) (by decide) rfl hb9 hM hdd hst rfl k1 k2
theorem lm_Lw_126 : Cond.methodLink "ForkPoolLaw" 126 y_Mo_count ∈ fxTW := fxTW_in 1001 (by decide +kernel) rfl
theorem c_Lw_126 {G : fxG} {d nL : Nat} {cc : ByteArray} {nm : String} {ret : Option FieldType} {hh : List (Nat × Nat × Nat × Nat)} {x : fxX} {Q : State → Prop} {w : fxW} {pc : Nat} {ls : List (Nat × Value)} {st : List Value} (C : fxC G d cc nL "ForkPoolLaw" nm ret hh x) {b n0 d' : Nat} {a0 : Value} {P : Outcome → fxW → Prop} (hd : decode cc pc = .ok (.invokevirtual 126, 3)) (hb9 : fxk w b = some (6, n0)) (hM : fxM G d' y_Mo_count (.ref b :: [a0]) w P) (hdd : d' < d) (hst : (st.map fun v => v.category).sum ≤ 8) (k1 : ∀ v w', P (.returned v) w' → fxR G nL x Q w' (pc + 3) ls (v.toList ++ st)) (k2 : ∀ a w', P (.threw a) w' → fxRt G nL x Q w' pc ls st a) : fxR G nL x Q w pc ls (a0 :: .ref b :: st) := r_callV (As := [a0]) (Cn := "ForkPoolModel") (ci := 6) C hd lm_Lw_126 (fxTW_in 1002 (by decide +kernel) rfl) (fxTW_in 1003 (by decide +kernel) rfl) w_Mo_count ini_ForkPoolModel (by decide) np_Mo_count (by decide) (by decide) rfl hb9 hM hdd hst rfl k1 k2
theorem lc_Lw_8 : Cond.classLink "ForkPoolLaw" 8 "ForkPool" ∈ fxTW := fxTW_in 62 (by decide +kernel) rfl
theorem n_Lw_8 {G : fxG} {d nL : Nat} {cc : ByteArray} {nm : String} {ret : Option FieldType} {hh : List (Nat × Nat × Nat × Nat)} {x : fxX} {Q : State → Prop} {w : fxW} {pc : Nat} {ls : List (Nat × Value)} {st : List Value} (C : fxC G d cc nL "ForkPoolLaw" nm ret hh x) (hd : decode cc pc = .ok (.new 8, 3)) (h9 : fxt w + 1 ≤ fxmt G) (h8 : fxu w + 7 ≤ fxmu G) (k : fxR G nL x Q (fx_new w 0 7 (fun k => defaultValue (tFP k))) (pc + 3) ls (.ref (fxt w) :: st)) : fxR G nL x Q w pc ls st := r_new (Cn := RFP) (T := FFP) (N := 7) (ci := 0) C hd rfl (by decide) inFP tFP tyFP lc_Lw_8 (fxTW_in 63 (by decide +kernel) rfl) ini_ForkPool (fun _ _ => rfl) h9 h8 k
theorem lc_Lw_74 : Cond.classLink "ForkPoolLaw" 74 "ForkPoolModel" ∈ fxTW := fxTW_in 749 (by decide +kernel) rfl
theorem n_Lw_74 {G : fxG} {d nL : Nat} {cc : ByteArray} {nm : String} {ret : Option FieldType} {hh : List (Nat × Nat × Nat × Nat)} {x : fxX} {Q : State → Prop} {w : fxW} {pc : Nat} {ls : List (Nat × Value)} {st : List Value} (C : fxC G d cc nL "ForkPoolLaw" nm ret hh x) (hd : decode cc pc = .ok (.new 74, 3)) (h9 : fxt w + 1 ≤ fxmt G) (h8 : fxu w + 33 ≤ fxmu G) (k : fxR G nL x Q (fx_new w 6 33 (fun k => defaultValue (tMo k))) (pc + 3) ls (.ref (fxt w) :: st)) : fxR G nL x Q w pc ls st := r_new (Cn := RMo) (T := FMo) (N := 33) (ci := 6) C hd rfl (by decide) inMo tMo tyMo lc_Lw_74 (fxTW_in 750 (by decide +kernel) rfl) ini_ForkPoolModel (fun _ _ => rfl) h9 h8 k
theorem lk_Mo_7 : Cond.fieldLink "ForkPoolModel" 7 "ForkPoolModel" "type" "[I" ∈ fxTW := fxTW_in 757 (by decide +kernel) rfl
theorem g_Mo_7 {G : fxG} {d nL : Nat} {cc : ByteArray} {nm : String} {ret : Option FieldType} {hh : List (Nat × Nat × Nat × Nat)} {x : fxX} {Q : State → Prop} {w : fxW} {pc : Nat} {ls : List (Nat × Value)} {st : List Value} (C : fxC G d cc nL "ForkPoolModel" nm ret hh x) {a n : Nat} {v : Value} (hd : decode cc pc = .ok (.getfield 7, 3)) (ha : fxk w a = some (6, n)) (hv : fxf w 386 a = v) (k : fxR G nL x Q w (pc + 3) ls (v :: st)) : fxR G nL x Q w pc ls (.ref a :: st) := r_get (Cn := RMo) (T := FMo) (N := 33) (ci := 6) (k0 := 2) C hd rfl (by decide) inMo (by decide) lk_Mo_7 (Or.inl rfl) ha hv k
theorem lk_Mo_13 : Cond.fieldLink "ForkPoolModel" 13 "ForkPoolModel" "length" "[I" ∈ fxTW := fxTW_in 758 (by decide +kernel) rfl
theorem g_Mo_13 {G : fxG} {d nL : Nat} {cc : ByteArray} {nm : String} {ret : Option FieldType} {hh : List (Nat × Nat × Nat × Nat)} {x : fxX} {Q : State → Prop} {w : fxW} {pc : Nat} {ls : List (Nat × Value)} {st : List Value} (C : fxC G d cc nL "ForkPoolModel" nm ret hh x) {a n : Nat} {v : Value} (hd : decode cc pc = .ok (.getfield 13, 3)) (ha : fxk w a = some (6, n)) (hv : fxf w 387 a = v) (k : fxR G nL x Q w (pc + 3) ls (v :: st)) : fxR G nL x Q w pc ls (.ref a :: st) := r_get (Cn := RMo) (T := FMo) (N := 33) (ci := 6) (k0 := 3) C hd rfl (by decide) inMo (by decide) lk_Mo_13 (Or.inl rfl) ha hv k
theorem lk_Mo_16 : Cond.fieldLink "ForkPoolModel" 16 "ForkPoolModel" "data" "[J" ∈ fxTW := fxTW_in 759 (by decide +kernel) rfl
theorem g_Mo_16 {G : fxG} {d nL : Nat} {cc : ByteArray} {nm : String} {ret : Option FieldType} {hh : List (Nat × Nat × Nat × Nat)} {x : fxX} {Q : State → Prop} {w : fxW} {pc : Nat} {ls : List (Nat × Value)} {st : List Value} (C : fxC G d cc nL "ForkPoolModel" nm ret hh x) {a n : Nat} {v : Value} (hd : decode cc pc = .ok (.getfield 16, 3)) (ha : fxk w a = some (6, n)) (hv : fxf w 388 a = v) (k : fxR G nL x Q w (pc + 3) ls (v :: st)) : fxR G nL x Q w pc ls (.ref a :: st) := r_get (Cn := RMo) (T := FMo) (N := 33) (ci := 6) (k0 := 4) C hd rfl (by decide) inMo (by decide) lk_Mo_16 (Or.inl rfl) ha hv k
theorem lk_Mo_20 : Cond.fieldLink "ForkPoolModel" 20 "ForkPoolModel" "kind" "[I" ∈ fxTW := fxTW_in 760 (by decide +kernel) rfl
theorem g_Mo_20 {G : fxG} {d nL : Nat} {cc : ByteArray} {nm : String} {ret : Option FieldType} {hh : List (Nat × Nat × Nat × Nat)} {x : fxX} {Q : State → Prop} {w : fxW} {pc : Nat} {ls : List (Nat × Value)} {st : List Value} (C : fxC G d cc nL "ForkPoolModel" nm ret hh x) {a n : Nat} {v : Value} (hd : decode cc pc = .ok (.getfield 20, 3)) (ha : fxk w a = some (6, n)) (hv : fxf w 389 a = v) (k : fxR G nL x Q w (pc + 3) ls (v :: st)) : fxR G nL x Q w pc ls (.ref a :: st) := r_get (Cn := RMo) (T := FMo) (N := 33) (ci := 6) (k0 := 5) C hd rfl (by decide) inMo (by decide) lk_Mo_20 (Or.inl rfl) ha hv k
theorem lk_Mo_23 : Cond.fieldLink "ForkPoolModel" 23 "ForkPoolModel" "on" "[I" ∈ fxTW := fxTW_in 761 (by decide +kernel) rfl
theorem g_Mo_23 {G : fxG} {d nL : Nat} {cc : ByteArray} {nm : String} {ret : Option FieldType} {hh : List (Nat × Nat × Nat × Nat)} {x : fxX} {Q : State → Prop} {w : fxW} {pc : Nat} {ls : List (Nat × Value)} {st : List Value} (C : fxC G d cc nL "ForkPoolModel" nm ret hh x) {a n : Nat} {v : Value} (hd : decode cc pc = .ok (.getfield 23, 3)) (ha : fxk w a = some (6, n)) (hv : fxf w 390 a = v) (k : fxR G nL x Q w (pc + 3) ls (v :: st)) : fxR G nL x Q w pc ls (.ref a :: st) := r_get (Cn := RMo) (T := FMo) (N := 33) (ci := 6) (k0 := 6) C hd rfl (by decide) inMo (by decide) lk_Mo_23 (Or.inl rfl) ha hv k
theorem lk_Mo_26 : Cond.fieldLink "ForkPoolModel" 26 "ForkPoolModel" "c" "[I" ∈ fxTW := fxTW_in 762 (by decide +kernel) rfl
theorem g_Mo_26 {G : fxG} {d nL : Nat} {cc : ByteArray} {nm : String} {ret : Option FieldType} {hh : List (Nat × Nat × Nat × Nat)} {x : fxX} {Q : State → Prop} {w : fxW} {pc : Nat} {ls : List (Nat × Value)} {st : List Value} (C : fxC G d cc nL "ForkPoolModel" nm ret hh x) {a n : Nat} {v : Value} (hd : decode cc pc = .ok (.getfield 26, 3)) (ha : fxk w a = some (6, n)) (hv : fxf w 391 a = v) (k : fxR G nL x Q w (pc + 3) ls (v :: st)) : fxR G nL x Q w pc ls (.ref a :: st) := r_get (Cn := RMo) (T := FMo) (N := 33) (ci := 6) (k0 := 7) C hd rfl (by decide) inMo (by decide) lk_Mo_26 (Or.inl rfl) ha hv k
theorem lk_Mo_29 : Cond.fieldLink "ForkPoolModel" 29 "ForkPoolModel" "d" "[I" ∈ fxTW := fxTW_in 763 (by decide +kernel) rfl
theorem g_Mo_29 {G : fxG} {d nL : Nat} {cc : ByteArray} {nm : String} {ret : Option FieldType} {hh : List (Nat × Nat × Nat × Nat)} {x : fxX} {Q : State → Prop} {w : fxW} {pc : Nat} {ls : List (Nat × Value)} {st : List Value} (C : fxC G d cc nL "ForkPoolModel" nm ret hh x) {a n : Nat} {v : Value} (hd : decode cc pc = .ok (.getfield 29, 3)) (ha : fxk w a = some (6, n)) (hv : fxf w 392 a = v) (k : fxR G nL x Q w (pc + 3) ls (v :: st)) : fxR G nL x Q w pc ls (.ref a :: st) := r_get (Cn := RMo) (T := FMo) (N := 33) (ci := 6) (k0 := 8) C hd rfl (by decide) inMo (by decide) lk_Mo_29 (Or.inl rfl) ha hv k
theorem lk_Mo_32 : Cond.fieldLink "ForkPoolModel" 32 "ForkPoolModel" "state" "[I" ∈ fxTW := fxTW_in 764 (by decide +kernel) rfl
theorem g_Mo_32 {G : fxG} {d nL : Nat} {cc : ByteArray} {nm : String} {ret : Option FieldType} {hh : List (Nat × Nat × Nat × Nat)} {x : fxX} {Q : State → Prop} {w : fxW} {pc : Nat} {ls : List (Nat × Value)} {st : List Value} (C : fxC G d cc nL "ForkPoolModel" nm ret hh x) {a n : Nat} {v : Value} (hd : decode cc pc = .ok (.getfield 32, 3)) (ha : fxk w a = some (6, n)) (hv : fxf w 393 a = v) (k : fxR G nL x Q w (pc + 3) ls (v :: st)) : fxR G nL x Q w pc ls (.ref a :: st) := r_get (Cn := RMo) (T := FMo) (N := 33) (ci := 6) (k0 := 9) C hd rfl (by decide) inMo (by decide) lk_Mo_32 (Or.inl rfl) ha hv k
theorem lk_Mo_35 : Cond.fieldLink "ForkPoolModel" 35 "ForkPoolModel" "failedAt" "[I" ∈ fxTW := fxTW_in 765 (by decide +kernel) rfl
theorem g_Mo_35 {G : fxG} {d nL : Nat} {cc : ByteArray} {nm : String} {ret : Option FieldType} {hh : List (Nat × Nat × Nat × Nat)} {x : fxX} {Q : State → Prop} {w : fxW} {pc : Nat} {ls : List (Nat × Value)} {st : List Value} (C : fxC G d cc nL "ForkPoolModel" nm ret hh x) {a n : Nat} {v : Value} (hd : decode cc pc = .ok (.getfield 35, 3)) (ha : fxk w a = some (6, n)) (hv : fxf w 394 a = v) (k : fxR G nL x Q w (pc + 3) ls (v :: st)) : fxR G nL x Q w pc ls (.ref a :: st) := r_get (Cn := RMo) (T := FMo) (N := 33) (ci := 6) (k0 := 10) C hd rfl (by decide) inMo (by decide) lk_Mo_35 (Or.inl rfl) ha hv k
theorem lk_Mo_38 : Cond.fieldLink "ForkPoolModel" 38 "ForkPoolModel" "did" "[I" ∈ fxTW := fxTW_in 766 (by decide +kernel) rfl
theorem g_Mo_38 {G : fxG} {d nL : Nat} {cc : ByteArray} {nm : String} {ret : Option FieldType} {hh : List (Nat × Nat × Nat × Nat)} {x : fxX} {Q : State → Prop} {w : fxW} {pc : Nat} {ls : List (Nat × Value)} {st : List Value} (C : fxC G d cc nL "ForkPoolModel" nm ret hh x) {a n : Nat} {v : Value} (hd : decode cc pc = .ok (.getfield 38, 3)) (ha : fxk w a = some (6, n)) (hv : fxf w 395 a = v) (k : fxR G nL x Q w (pc + 3) ls (v :: st)) : fxR G nL x Q w pc ls (.ref a :: st) := r_get (Cn := RMo) (T := FMo) (N := 33) (ci := 6) (k0 := 11) C hd rfl (by decide) inMo (by decide) lk_Mo_38 (Or.inl rfl) ha hv k
theorem lk_Mo_41 : Cond.fieldLink "ForkPoolModel" 41 "ForkPoolModel" "root" "[I" ∈ fxTW := fxTW_in 767 (by decide +kernel) rfl
theorem g_Mo_41 {G : fxG} {d nL : Nat} {cc : ByteArray} {nm : String} {ret : Option FieldType} {hh : List (Nat × Nat × Nat × Nat)} {x : fxX} {Q : State → Prop} {w : fxW} {pc : Nat} {ls : List (Nat × Value)} {st : List Value} (C : fxC G d cc nL "ForkPoolModel" nm ret hh x) {a n : Nat} {v : Value} (hd : decode cc pc = .ok (.getfield 41, 3)) (ha : fxk w a = some (6, n)) (hv : fxf w 396 a = v) (k : fxR G nL x Q w (pc + 3) ls (v :: st)) : fxR G nL x Q w pc ls (.ref a :: st) := r_get (Cn := RMo) (T := FMo) (N := 33) (ci := 6) (k0 := 12) C hd rfl (by decide) inMo (by decide) lk_Mo_41 (Or.inl rfl) ha hv k
theorem lk_Mo_44 : Cond.fieldLink "ForkPoolModel" 44 "ForkPoolModel" "round" "[I" ∈ fxTW := fxTW_in 768 (by decide +kernel) rfl
theorem g_Mo_44 {G : fxG} {d nL : Nat} {cc : ByteArray} {nm : String} {ret : Option FieldType} {hh : List (Nat × Nat × Nat × Nat)} {x : fxX} {Q : State → Prop} {w : fxW} {pc : Nat} {ls : List (Nat × Value)} {st : List Value} (C : fxC G d cc nL "ForkPoolModel" nm ret hh x) {a n : Nat} {v : Value} (hd : decode cc pc = .ok (.getfield 44, 3)) (ha : fxk w a = some (6, n)) (hv : fxf w 397 a = v) (k : fxR G nL x Q w (pc + 3) ls (v :: st)) : fxR G nL x Q w pc ls (.ref a :: st) := r_get (Cn := RMo) (T := FMo) (N := 33) (ci := 6) (k0 := 13) C hd rfl (by decide) inMo (by decide) lk_Mo_44 (Or.inl rfl) ha hv k
theorem lk_Mo_47 : Cond.fieldLink "ForkPoolModel" 47 "ForkPoolModel" "of" "[I" ∈ fxTW := fxTW_in 770 (by decide +kernel) rfl
theorem g_Mo_47 {G : fxG} {d nL : Nat} {cc : ByteArray} {nm : String} {ret : Option FieldType} {hh : List (Nat × Nat × Nat × Nat)} {x : fxX} {Q : State → Prop} {w : fxW} {pc : Nat} {ls : List (Nat × Value)} {st : List Value} (C : fxC G d cc nL "ForkPoolModel" nm ret hh x) {a n : Nat} {v : Value} (hd : decode cc pc = .ok (.getfield 47, 3)) (ha : fxk w a = some (6, n)) (hv : fxf w 399 a = v) (k : fxR G nL x Q w (pc + 3) ls (v :: st)) : fxR G nL x Q w pc ls (.ref a :: st) := r_get (Cn := RMo) (T := FMo) (N := 33) (ci := 6) (k0 := 15) C hd rfl (by decide) inMo (by decide) lk_Mo_47 (Or.inl rfl) ha hv k
theorem lk_Mo_50 : Cond.fieldLink "ForkPoolModel" 50 "ForkPoolModel" "from" "[I" ∈ fxTW := fxTW_in 771 (by decide +kernel) rfl
theorem g_Mo_50 {G : fxG} {d nL : Nat} {cc : ByteArray} {nm : String} {ret : Option FieldType} {hh : List (Nat × Nat × Nat × Nat)} {x : fxX} {Q : State → Prop} {w : fxW} {pc : Nat} {ls : List (Nat × Value)} {st : List Value} (C : fxC G d cc nL "ForkPoolModel" nm ret hh x) {a n : Nat} {v : Value} (hd : decode cc pc = .ok (.getfield 50, 3)) (ha : fxk w a = some (6, n)) (hv : fxf w 400 a = v) (k : fxR G nL x Q w (pc + 3) ls (v :: st)) : fxR G nL x Q w pc ls (.ref a :: st) := r_get (Cn := RMo) (T := FMo) (N := 33) (ci := 6) (k0 := 16) C hd rfl (by decide) inMo (by decide) lk_Mo_50 (Or.inl rfl) ha hv k
theorem lk_Mo_53 : Cond.fieldLink "ForkPoolModel" 53 "ForkPoolModel" "to" "[I" ∈ fxTW := fxTW_in 772 (by decide +kernel) rfl
theorem g_Mo_53 {G : fxG} {d nL : Nat} {cc : ByteArray} {nm : String} {ret : Option FieldType} {hh : List (Nat × Nat × Nat × Nat)} {x : fxX} {Q : State → Prop} {w : fxW} {pc : Nat} {ls : List (Nat × Value)} {st : List Value} (C : fxC G d cc nL "ForkPoolModel" nm ret hh x) {a n : Nat} {v : Value} (hd : decode cc pc = .ok (.getfield 53, 3)) (ha : fxk w a = some (6, n)) (hv : fxf w 401 a = v) (k : fxR G nL x Q w (pc + 3) ls (v :: st)) : fxR G nL x Q w pc ls (.ref a :: st) := r_get (Cn := RMo) (T := FMo) (N := 33) (ci := 6) (k0 := 17) C hd rfl (by decide) inMo (by decide) lk_Mo_53 (Or.inl rfl) ha hv k
theorem lk_Mo_56 : Cond.fieldLink "ForkPoolModel" 56 "ForkPoolModel" "parent" "[I" ∈ fxTW := fxTW_in 773 (by decide +kernel) rfl
theorem g_Mo_56 {G : fxG} {d nL : Nat} {cc : ByteArray} {nm : String} {ret : Option FieldType} {hh : List (Nat × Nat × Nat × Nat)} {x : fxX} {Q : State → Prop} {w : fxW} {pc : Nat} {ls : List (Nat × Value)} {st : List Value} (C : fxC G d cc nL "ForkPoolModel" nm ret hh x) {a n : Nat} {v : Value} (hd : decode cc pc = .ok (.getfield 56, 3)) (ha : fxk w a = some (6, n)) (hv : fxf w 402 a = v) (k : fxR G nL x Q w (pc + 3) ls (v :: st)) : fxR G nL x Q w pc ls (.ref a :: st) := r_get (Cn := RMo) (T := FMo) (N := 33) (ci := 6) (k0 := 18) C hd rfl (by decide) inMo (by decide) lk_Mo_56 (Or.inl rfl) ha hv k
theorem lk_Mo_59 : Cond.fieldLink "ForkPoolModel" 59 "ForkPoolModel" "child" "[I" ∈ fxTW := fxTW_in 774 (by decide +kernel) rfl
theorem g_Mo_59 {G : fxG} {d nL : Nat} {cc : ByteArray} {nm : String} {ret : Option FieldType} {hh : List (Nat × Nat × Nat × Nat)} {x : fxX} {Q : State → Prop} {w : fxW} {pc : Nat} {ls : List (Nat × Value)} {st : List Value} (C : fxC G d cc nL "ForkPoolModel" nm ret hh x) {a n : Nat} {v : Value} (hd : decode cc pc = .ok (.getfield 59, 3)) (ha : fxk w a = some (6, n)) (hv : fxf w 403 a = v) (k : fxR G nL x Q w (pc + 3) ls (v :: st)) : fxR G nL x Q w pc ls (.ref a :: st) := r_get (Cn := RMo) (T := FMo) (N := 33) (ci := 6) (k0 := 19) C hd rfl (by decide) inMo (by decide) lk_Mo_59 (Or.inl rfl) ha hv k
theorem lk_Mo_62 : Cond.fieldLink "ForkPoolModel" 62 "ForkPoolModel" "over" "[I" ∈ fxTW := fxTW_in 775 (by decide +kernel) rfl
theorem g_Mo_62 {G : fxG} {d nL : Nat} {cc : ByteArray} {nm : String} {ret : Option FieldType} {hh : List (Nat × Nat × Nat × Nat)} {x : fxX} {Q : State → Prop} {w : fxW} {pc : Nat} {ls : List (Nat × Value)} {st : List Value} (C : fxC G d cc nL "ForkPoolModel" nm ret hh x) {a n : Nat} {v : Value} (hd : decode cc pc = .ok (.getfield 62, 3)) (ha : fxk w a = some (6, n)) (hv : fxf w 404 a = v) (k : fxR G nL x Q w (pc + 3) ls (v :: st)) : fxR G nL x Q w pc ls (.ref a :: st) := r_get (Cn := RMo) (T := FMo) (N := 33) (ci := 6) (k0 := 20) C hd rfl (by decide) inMo (by decide) lk_Mo_62 (Or.inl rfl) ha hv k
theorem lk_Mo_65 : Cond.fieldLink "ForkPoolModel" 65 "ForkPoolModel" "result" "[J" ∈ fxTW := fxTW_in 776 (by decide +kernel) rfl
theorem g_Mo_65 {G : fxG} {d nL : Nat} {cc : ByteArray} {nm : String} {ret : Option FieldType} {hh : List (Nat × Nat × Nat × Nat)} {x : fxX} {Q : State → Prop} {w : fxW} {pc : Nat} {ls : List (Nat × Value)} {st : List Value} (C : fxC G d cc nL "ForkPoolModel" nm ret hh x) {a n : Nat} {v : Value} (hd : decode cc pc = .ok (.getfield 65, 3)) (ha : fxk w a = some (6, n)) (hv : fxf w 405 a = v) (k : fxR G nL x Q w (pc + 3) ls (v :: st)) : fxR G nL x Q w pc ls (.ref a :: st) := r_get (Cn := RMo) (T := FMo) (N := 33) (ci := 6) (k0 := 21) C hd rfl (by decide) inMo (by decide) lk_Mo_65 (Or.inl rfl) ha hv k
theorem lk_Mo_68 : Cond.fieldLink "ForkPoolModel" 68 "ForkPoolModel" "base" "[J" ∈ fxTW := fxTW_in 777 (by decide +kernel) rfl
theorem g_Mo_68 {G : fxG} {d nL : Nat} {cc : ByteArray} {nm : String} {ret : Option FieldType} {hh : List (Nat × Nat × Nat × Nat)} {x : fxX} {Q : State → Prop} {w : fxW} {pc : Nat} {ls : List (Nat × Value)} {st : List Value} (C : fxC G d cc nL "ForkPoolModel" nm ret hh x) {a n : Nat} {v : Value} (hd : decode cc pc = .ok (.getfield 68, 3)) (ha : fxk w a = some (6, n)) (hv : fxf w 406 a = v) (k : fxR G nL x Q w (pc + 3) ls (v :: st)) : fxR G nL x Q w pc ls (.ref a :: st) := r_get (Cn := RMo) (T := FMo) (N := 33) (ci := 6) (k0 := 22) C hd rfl (by decide) inMo (by decide) lk_Mo_68 (Or.inl rfl) ha hv k
theorem lk_Mo_71 : Cond.fieldLink "ForkPoolModel" 71 "ForkPoolModel" "queue" "[I" ∈ fxTW := fxTW_in 779 (by decide +kernel) rfl
theorem g_Mo_71 {G : fxG} {d nL : Nat} {cc : ByteArray} {nm : String} {ret : Option FieldType} {hh : List (Nat × Nat × Nat × Nat)} {x : fxX} {Q : State → Prop} {w : fxW} {pc : Nat} {ls : List (Nat × Value)} {st : List Value} (C : fxC G d cc nL "ForkPoolModel" nm ret hh x) {a n : Nat} {v : Value} (hd : decode cc pc = .ok (.getfield 71, 3)) (ha : fxk w a = some (6, n)) (hv : fxf w 408 a = v) (k : fxR G nL x Q w (pc + 3) ls (v :: st)) : fxR G nL x Q w pc ls (.ref a :: st) := r_get (Cn := RMo) (T := FMo) (N := 33) (ci := 6) (k0 := 24) C hd rfl (by decide) inMo (by decide) lk_Mo_71 (Or.inl rfl) ha hv k
theorem lk_Mo_74 : Cond.fieldLink "ForkPoolModel" 74 "ForkPoolModel" "queued" "[I" ∈ fxTW := fxTW_in 780 (by decide +kernel) rfl
theorem g_Mo_74 {G : fxG} {d nL : Nat} {cc : ByteArray} {nm : String} {ret : Option FieldType} {hh : List (Nat × Nat × Nat × Nat)} {x : fxX} {Q : State → Prop} {w : fxW} {pc : Nat} {ls : List (Nat × Value)} {st : List Value} (C : fxC G d cc nL "ForkPoolModel" nm ret hh x) {a n : Nat} {v : Value} (hd : decode cc pc = .ok (.getfield 74, 3)) (ha : fxk w a = some (6, n)) (hv : fxf w 409 a = v) (k : fxR G nL x Q w (pc + 3) ls (v :: st)) : fxR G nL x Q w pc ls (.ref a :: st) := r_get (Cn := RMo) (T := FMo) (N := 33) (ci := 6) (k0 := 25) C hd rfl (by decide) inMo (by decide) lk_Mo_74 (Or.inl rfl) ha hv k
theorem lk_Mo_77 : Cond.fieldLink "ForkPoolModel" 77 "ForkPoolModel" "done" "[I" ∈ fxTW := fxTW_in 781 (by decide +kernel) rfl
theorem g_Mo_77 {G : fxG} {d nL : Nat} {cc : ByteArray} {nm : String} {ret : Option FieldType} {hh : List (Nat × Nat × Nat × Nat)} {x : fxX} {Q : State → Prop} {w : fxW} {pc : Nat} {ls : List (Nat × Value)} {st : List Value} (C : fxC G d cc nL "ForkPoolModel" nm ret hh x) {a n : Nat} {v : Value} (hd : decode cc pc = .ok (.getfield 77, 3)) (ha : fxk w a = some (6, n)) (hv : fxf w 410 a = v) (k : fxR G nL x Q w (pc + 3) ls (v :: st)) : fxR G nL x Q w pc ls (.ref a :: st) := r_get (Cn := RMo) (T := FMo) (N := 33) (ci := 6) (k0 := 26) C hd rfl (by decide) inMo (by decide) lk_Mo_77 (Or.inl rfl) ha hv k
theorem lk_Mo_80 : Cond.fieldLink "ForkPoolModel" 80 "ForkPoolModel" "stolen" "[I" ∈ fxTW := fxTW_in 782 (by decide +kernel) rfl
theorem g_Mo_80 {G : fxG} {d nL : Nat} {cc : ByteArray} {nm : String} {ret : Option FieldType} {hh : List (Nat × Nat × Nat × Nat)} {x : fxX} {Q : State → Prop} {w : fxW} {pc : Nat} {ls : List (Nat × Value)} {st : List Value} (C : fxC G d cc nL "ForkPoolModel" nm ret hh x) {a n : Nat} {v : Value} (hd : decode cc pc = .ok (.getfield 80, 3)) (ha : fxk w a = some (6, n)) (hv : fxf w 411 a = v) (k : fxR G nL x Q w (pc + 3) ls (v :: st)) : fxR G nL x Q w pc ls (.ref a :: st) := r_get (Cn := RMo) (T := FMo) (N := 33) (ci := 6) (k0 := 27) C hd rfl (by decide) inMo (by decide) lk_Mo_80 (Or.inl rfl) ha hv k
theorem lk_Mo_83 : Cond.fieldLink "ForkPoolModel" 83 "ForkPoolModel" "idle" "[I" ∈ fxTW := fxTW_in 783 (by decide +kernel) rfl
theorem g_Mo_83 {G : fxG} {d nL : Nat} {cc : ByteArray} {nm : String} {ret : Option FieldType} {hh : List (Nat × Nat × Nat × Nat)} {x : fxX} {Q : State → Prop} {w : fxW} {pc : Nat} {ls : List (Nat × Value)} {st : List Value} (C : fxC G d cc nL "ForkPoolModel" nm ret hh x) {a n : Nat} {v : Value} (hd : decode cc pc = .ok (.getfield 83, 3)) (ha : fxk w a = some (6, n)) (hv : fxf w 412 a = v) (k : fxR G nL x Q w (pc + 3) ls (v :: st)) : fxR G nL x Q w pc ls (.ref a :: st) := r_get (Cn := RMo) (T := FMo) (N := 33) (ci := 6) (k0 := 28) C hd rfl (by decide) inMo (by decide) lk_Mo_83 (Or.inl rfl) ha hv k
theorem lk_Mo_86 : Cond.fieldLink "ForkPoolModel" 86 "ForkPoolModel" "victim" "[I" ∈ fxTW := fxTW_in 784 (by decide +kernel) rfl
theorem g_Mo_86 {G : fxG} {d nL : Nat} {cc : ByteArray} {nm : String} {ret : Option FieldType} {hh : List (Nat × Nat × Nat × Nat)} {x : fxX} {Q : State → Prop} {w : fxW} {pc : Nat} {ls : List (Nat × Value)} {st : List Value} (C : fxC G d cc nL "ForkPoolModel" nm ret hh x) {a n : Nat} {v : Value} (hd : decode cc pc = .ok (.getfield 86, 3)) (ha : fxk w a = some (6, n)) (hv : fxf w 413 a = v) (k : fxR G nL x Q w (pc + 3) ls (v :: st)) : fxR G nL x Q w pc ls (.ref a :: st) := r_get (Cn := RMo) (T := FMo) (N := 33) (ci := 6) (k0 := 29) C hd rfl (by decide) inMo (by decide) lk_Mo_86 (Or.inl rfl) ha hv k
theorem lk_Mo_89 : Cond.fieldLink "ForkPoolModel" 89 "ForkPoolModel" "grain" "I" ∈ fxTW := fxTW_in 785 (by decide +kernel) rfl
theorem g_Mo_89 {G : fxG} {d nL : Nat} {cc : ByteArray} {nm : String} {ret : Option FieldType} {hh : List (Nat × Nat × Nat × Nat)} {x : fxX} {Q : State → Prop} {w : fxW} {pc : Nat} {ls : List (Nat × Value)} {st : List Value} (C : fxC G d cc nL "ForkPoolModel" nm ret hh x) {a n : Nat} {v : Value} (hd : decode cc pc = .ok (.getfield 89, 3)) (ha : fxk w a = some (6, n)) (hv : fxf w 414 a = v) (k : fxR G nL x Q w (pc + 3) ls (v :: st)) : fxR G nL x Q w pc ls (.ref a :: st) := r_get (Cn := RMo) (T := FMo) (N := 33) (ci := 6) (k0 := 30) C hd rfl (by decide) inMo (by decide) lk_Mo_89 (Or.inl rfl) ha hv k
theorem lk_Mo_93 : Cond.fieldLink "ForkPoolModel" 93 "ForkPoolModel" "workers" "I" ∈ fxTW := fxTW_in 756 (by decide +kernel) rfl
theorem g_Mo_93 {G : fxG} {d nL : Nat} {cc : ByteArray} {nm : String} {ret : Option FieldType} {hh : List (Nat × Nat × Nat × Nat)} {x : fxX} {Q : State → Prop} {w : fxW} {pc : Nat} {ls : List (Nat × Value)} {st : List Value} (C : fxC G d cc nL "ForkPoolModel" nm ret hh x) {a n : Nat} {v : Value} (hd : decode cc pc = .ok (.getfield 93, 3)) (ha : fxk w a = some (6, n)) (hv : fxf w 385 a = v) (k : fxR G nL x Q w (pc + 3) ls (v :: st)) : fxR G nL x Q w pc ls (.ref a :: st) := r_get (Cn := RMo) (T := FMo) (N := 33) (ci := 6) (k0 := 1) C hd rfl (by decide) inMo (by decide) lk_Mo_93 (Or.inl rfl) ha hv k
theorem lk_Mo_96 : Cond.fieldLink "ForkPoolModel" 96 "ForkPoolModel" "thrown" "I" ∈ fxTW := fxTW_in 755 (by decide +kernel) rfl
theorem g_Mo_96 {G : fxG} {d nL : Nat} {cc : ByteArray} {nm : String} {ret : Option FieldType} {hh : List (Nat × Nat × Nat × Nat)} {x : fxX} {Q : State → Prop} {w : fxW} {pc : Nat} {ls : List (Nat × Value)} {st : List Value} (C : fxC G d cc nL "ForkPoolModel" nm ret hh x) {a n : Nat} {v : Value} (hd : decode cc pc = .ok (.getfield 96, 3)) (ha : fxk w a = some (6, n)) (hv : fxf w 384 a = v) (k : fxR G nL x Q w (pc + 3) ls (v :: st)) : fxR G nL x Q w pc ls (.ref a :: st) := r_get (Cn := RMo) (T := FMo) (N := 33) (ci := 6) (k0 := 0) C hd rfl (by decide) inMo (by decide) lk_Mo_96 (Or.inl rfl) ha hv k
theorem lk_Mo_103 : Cond.fieldLink "ForkPoolModel" 103 "ForkPoolModel" "jobs" "I" ∈ fxTW := fxTW_in 769 (by decide +kernel) rfl
theorem g_Mo_103 {G : fxG} {d nL : Nat} {cc : ByteArray} {nm : String} {ret : Option FieldType} {hh : List (Nat × Nat × Nat × Nat)} {x : fxX} {Q : State → Prop} {w : fxW} {pc : Nat} {ls : List (Nat × Value)} {st : List Value} (C : fxC G d cc nL "ForkPoolModel" nm ret hh x) {a n : Nat} {v : Value} (hd : decode cc pc = .ok (.getfield 103, 3)) (ha : fxk w a = some (6, n)) (hv : fxf w 398 a = v) (k : fxR G nL x Q w (pc + 3) ls (v :: st)) : fxR G nL x Q w pc ls (.ref a :: st) := r_get (Cn := RMo) (T := FMo) (N := 33) (ci := 6) (k0 := 14) C hd rfl (by decide) inMo (by decide) lk_Mo_103 (Or.inl rfl) ha hv k
theorem lk_Mo_130 : Cond.fieldLink "ForkPoolModel" 130 "ForkPoolModel" "tasks" "I" ∈ fxTW := fxTW_in 778 (by decide +kernel) rfl
theorem g_Mo_130 {G : fxG} {d nL : Nat} {cc : ByteArray} {nm : String} {ret : Option FieldType} {hh : List (Nat × Nat × Nat × Nat)} {x : fxX} {Q : State → Prop} {w : fxW} {pc : Nat} {ls : List (Nat × Value)} {st : List Value} (C : fxC G d cc nL "ForkPoolModel" nm ret hh x) {a n : Nat} {v : Value} (hd : decode cc pc = .ok (.getfield 130, 3)) (ha : fxk w a = some (6, n)) (hv : fxf w 407 a = v) (k : fxR G nL x Q w (pc + 3) ls (v :: st)) : fxR G nL x Q w pc ls (.ref a :: st) := r_get (Cn := RMo) (T := FMo) (N := 33) (ci := 6) (k0 := 23) C hd rfl (by decide) inMo (by decide) lk_Mo_130 (Or.inl rfl) ha hv k
theorem lk_Mo_183 : Cond.fieldLink "ForkPoolModel" 183 "ForkPoolModel" "turn" "I" ∈ fxTW := fxTW_in 787 (by decide +kernel) rfl
theorem g_Mo_183 {G : fxG} {d nL : Nat} {cc : ByteArray} {nm : String} {ret : Option FieldType} {hh : List (Nat × Nat × Nat × Nat)} {x : fxX} {Q : State → Prop} {w : fxW} {pc : Nat} {ls : List (Nat × Value)} {st : List Value} (C : fxC G d cc nL "ForkPoolModel" nm ret hh x) {a n : Nat} {v : Value} (hd : decode cc pc = .ok (.getfield 183, 3)) (ha : fxk w a = some (6, n)) (hv : fxf w 416 a = v) (k : fxR G nL x Q w (pc + 3) ls (v :: st)) : fxR G nL x Q w pc ls (.ref a :: st) := r_get (Cn := RMo) (T := FMo) (N := 33) (ci := 6) (k0 := 32) C hd rfl (by decide) inMo (by decide) lk_Mo_183 (Or.inl rfl) ha hv k
theorem lk_Mo_186 : Cond.fieldLink "ForkPoolModel" 186 "ForkPoolModel" "steps" "I" ∈ fxTW := fxTW_in 786 (by decide +kernel) rfl
theorem g_Mo_186 {G : fxG} {d nL : Nat} {cc : ByteArray} {nm : String} {ret : Option FieldType} {hh : List (Nat × Nat × Nat × Nat)} {x : fxX} {Q : State → Prop} {w : fxW} {pc : Nat} {ls : List (Nat × Value)} {st : List Value} (C : fxC G d cc nL "ForkPoolModel" nm ret hh x) {a n : Nat} {v : Value} (hd : decode cc pc = .ok (.getfield 186, 3)) (ha : fxk w a = some (6, n)) (hv : fxf w 415 a = v) (k : fxR G nL x Q w (pc + 3) ls (v :: st)) : fxR G nL x Q w pc ls (.ref a :: st) := r_get (Cn := RMo) (T := FMo) (N := 33) (ci := 6) (k0 := 31) C hd rfl (by decide) inMo (by decide) lk_Mo_186 (Or.inl rfl) ha hv k
theorem o_Mo_1 {G : fxG} {d nL : Nat} {cc : ByteArray} {nm : String} {ret : Option FieldType} {hh : List (Nat × Nat × Nat × Nat)} {x : fxX} {Q : State → Prop} {w : fxW} {pc : Nat} {ls : List (Nat × Value)} {st : List Value} (C : fxC G d cc nL "ForkPoolModel" nm ret hh x) {b : Nat} (hd : decode cc pc = .ok (.invokespecial 1, 3)) (h1 : 1 ≤ d) (hst : (st.map fun v => v.category).sum ≤ 8) (k : fxR G nL x Q w (pc + 3) ls st) : fxR G nL x Q w pc ls (.ref b :: st) := r_objInit C hd (fxTW_in 754 (by decide +kernel) rfl) (fxTW_in 68 (by decide +kernel) rfl) (fxTW_in 69 (by decide +kernel) rfl) h1 hst k
theorem lm_Mo_106 : Cond.methodLink "ForkPoolModel" 106 y_Mo_in ∈ fxTW := fxTW_in 864 (by decide +kernel) rfl
theorem c_Mo_106 {G : fxG} {d nL : Nat} {cc : ByteArray} {nm : String} {ret : Option FieldType} {hh : List (Nat × Nat × Nat × Nat)} {x : fxX} {Q : State → Prop} {w : fxW} {pc : Nat} {ls : List (Nat × Value)} {st : List Value} (C : fxC G d cc nL "ForkPoolModel" nm ret hh x) {d' : Nat} {a0 a1 a2 : Value} {P : Outcome → fxW → Prop} (hd : decode cc pc = .ok (.invokestatic 106, 3)) (hM : fxM G d' y_Mo_in [a0, a1, a2] w P) (hdd : d' < d) (hst : (st.map fun v => v.category).sum ≤ 8) (k1 : ∀ v w', P (.returned v) w' → fxR G nL x Q w' (pc + 3) ls (v.toList ++ st)) (k2 : ∀ a w', P (.threw a) w' → fxRt G nL x Q w' pc ls st a) : fxR G nL x Q w pc ls (a2 :: a1 :: a0 :: st) := r_callS (As := [a0, a1, a2]) C hd lm_Mo_106 (fxTW_in 865 (by decide +kernel) rfl) w_Mo_in ini_ForkPoolModel (by decide) np_Mo_in (by decide) hM hdd hst rfl k1 k2
theorem lm_Mo_122 : Cond.methodLink "ForkPoolModel" 122 y_Mo_kept ∈ fxTW := fxTW_in 883 (by decide +kernel) rfl
theorem c_Mo_122 {G : fxG} {d nL : Nat} {cc : ByteArray} {nm : String} {ret : Option FieldType} {hh : List (Nat × Nat × Nat × Nat)} {x : fxX} {Q : State → Prop} {w : fxW} {pc : Nat} {ls : List (Nat × Value)} {st : List Value} (C : fxC G d cc nL "ForkPoolModel" nm ret hh x) {d' : Nat} {a0 a1 : Value} {P : Outcome → fxW → Prop} (hd : decode cc pc = .ok (.invokestatic 122, 3)) (hM : fxM G d' y_Mo_kept [a0, a1] w P) (hdd : d' < d) (hst : (st.map fun v => v.category).sum ≤ 8) (k1 : ∀ v w', P (.returned v) w' → fxR G nL x Q w' (pc + 3) ls (v.toList ++ st)) (k2 : ∀ a w', P (.threw a) w' → fxRt G nL x Q w' pc ls st a) : fxR G nL x Q w pc ls (a1 :: a0 :: st) := r_callS (As := [a0, a1]) C hd lm_Mo_122 (fxTW_in 884 (by decide +kernel) rfl) w_Mo_kept ini_ForkPoolModel (by decide) np_Mo_kept (by decide) hM hdd hst rfl k1 k2
theorem lm_Mo_145 : Cond.methodLink "ForkPoolModel" 145 y_Mo_down ∈ fxTW := fxTW_in 958 (by decide +kernel) rfl
theorem c_Mo_145 {G : fxG} {d nL : Nat} {cc : ByteArray} {nm : String} {ret : Option FieldType} {hh : List (Nat × Nat × Nat × Nat)} {x : fxX} {Q : State → Prop} {w : fxW} {pc : Nat} {ls : List (Nat × Value)} {st : List Value} (C : fxC G d cc nL "ForkPoolModel" nm ret hh x) {d' : Nat} {a0 a1 : Value} {P : Outcome → fxW → Prop} (hd : decode cc pc = .ok (.invokestatic 145, 3)) (hM : fxM G d' y_Mo_down [a0, a1] w P) (hdd : d' < d) (hst : (st.map fun v => v.category).sum ≤ 8) (k1 : ∀ v w', P (.returned v) w' → fxR G nL x Q w' (pc + 3) ls (v.toList ++ st)) (k2 : ∀ a w', P (.threw a) w' → fxRt G nL x Q w' pc ls st a) : fxR G nL x Q w pc ls (a1 :: a0 :: st) := r_callS (As := [a0, a1]) C hd lm_Mo_145 (fxTW_in 959 (by decide +kernel) rfl) w_Mo_down ini_ForkPoolModel (by decide) np_Mo_down (by decide) hM hdd hst rfl k1 k2
theorem lm_Mo_110 : Cond.methodLink "ForkPoolModel" 110 y_Mo_raise ∈ fxTW := fxTW_in 867 (by decide +kernel) rfl
theorem c_Mo_110 {G : fxG} {d nL : Nat} {cc : ByteArray} {nm : String} {ret : Option FieldType} {hh : List (Nat × Nat × Nat × Nat)} {x : fxX} {Q : State → Prop} {w : fxW} {pc : Nat} {ls : List (Nat × Value)} {st : List Value} (C : fxC G d cc nL "ForkPoolModel" nm ret hh x) {b n0 d' : Nat} {a0 : Value} {P : Outcome → fxW → Prop} (hd : decode cc pc = .ok (.invokevirtual 110, 3)) (hb9 : fxk w b = some (6, n0)) (hM : fxM G d' y_Mo_raise (.ref b :: [a0]) w P) (hdd : d' < d) (hst : (st.map fun v => v.category).sum ≤ 8) (k1 : ∀ v w', P (.returned v) w' → fxR G nL x Q w' (pc + 3) ls (v.toList ++ st)) (k2 : ∀ a w', P (.threw a) w' → fxRt G nL x Q w' pc ls st a) : fxR G nL x Q w pc ls (a0 :: .ref b :: st) := r_callV (As := [a0]) (Cn := "ForkPoolModel") (ci := 6) C hd lm_Mo_110 (fxTW_in 869 (by decide +kernel) rfl) (fxTW_in 18 (by decide +kernel) rfl) w_Mo_raise ini_ForkPoolModel (by decide) np_Mo_raise (by decide) (by decide) rfl hb9 hM hdd hst rfl k1 k2
theorem lm_Mo_114 : Cond.methodLink "ForkPoolModel" 114 y_Mo_busy ∈ fxTW := fxTW_in 871 (by decide +kernel) rfl
theorem c_Mo_114 {G : fxG} {d nL : Nat} {cc : ByteArray} {nm : String} {ret : Option FieldType} {hh : List (Nat × Nat × Nat × Nat)} {x : fxX} {Q : State → Prop} {w : fxW} {pc : Nat} {ls : List (Nat × Value)} {st : List Value} (C : fxC G d cc nL "ForkPoolModel" nm ret hh x) {b n0 d' : Nat} {a0 : Value} {P : Outcome → fxW → Prop} (hd : decode cc pc = .ok (.invokevirtual 114, 3)) (hb9 : fxk w b = some (6, n0)) (hM : fxM G d' y_Mo_busy (.ref b :: [a0]) w P) (hdd : d' < d) (hst : (st.map fun v => v.category).sum ≤ 8) (k1 : ∀ v w', P (.returned v) w' → fxR G nL x Q w' (pc + 3) ls (v.toList ++ st)) (k2 : ∀ a w', P (.threw a) w' → fxRt G nL x Q w' pc ls st a) : fxR G nL x Q w pc ls (a0 :: .ref b :: st) := r_callV (As := [a0]) (Cn := "ForkPoolModel") (ci := 6) C hd lm_Mo_114 (fxTW_in 873 (by decide +kernel) rfl) (fxTW_in 19 (by decide +kernel) rfl) w_Mo_busy ini_ForkPoolModel (by decide) np_Mo_busy (by decide) (by decide) rfl hb9 hM hdd hst rfl k1 k2
theorem lm_Mo_118 : Cond.methodLink "ForkPoolModel" 118 y_Mo_noElement ∈ fxTW := fxTW_in 879 (by decide +kernel) rfl
theorem c_Mo_118 {G : fxG} {d nL : Nat} {cc : ByteArray} {nm : String} {ret : Option FieldType} {hh : List (Nat × Nat × Nat × Nat)} {x : fxX} {Q : State → Prop} {w : fxW} {pc : Nat} {ls : List (Nat × Value)} {st : List Value} (C : fxC G d cc nL "ForkPoolModel" nm ret hh x) {b n0 d' : Nat} {a0 a1 : Value} {P : Outcome → fxW → Prop} (hd : decode cc pc = .ok (.invokevirtual 118, 3)) (hb9 : fxk w b = some (6, n0)) (hM : fxM G d' y_Mo_noElement (.ref b :: [a0, a1]) w P) (hdd : d' < d) (hst : (st.map fun v => v.category).sum ≤ 8) (k1 : ∀ v w', P (.returned v) w' → fxR G nL x Q w' (pc + 3) ls (v.toList ++ st)) (k2 : ∀ a w', P (.threw a) w' → fxRt G nL x Q w' pc ls st a) : fxR G nL x Q w pc ls (a1 :: a0 :: .ref b :: st) := r_callV (As := [a0, a1]) (Cn := "ForkPoolModel") (ci := 6) C hd lm_Mo_118 (fxTW_in 881 (by decide +kernel) rfl) (fxTW_in 20 (by decide +kernel) rfl) w_Mo_noElement ini_ForkPoolModel (by decide) np_Mo_noElement (by decide) (by decide) rfl hb9 hM hdd hst rfl k1 k2
theorem lm_Mo_126 : Cond.methodLink "ForkPoolModel" 126 y_Mo_pull ∈ fxTW := fxTW_in 912 (by decide +kernel) rfl
theorem c_Mo_126 {G : fxG} {d nL : Nat} {cc : ByteArray} {nm : String} {ret : Option FieldType} {hh : List (Nat × Nat × Nat × Nat)} {x : fxX} {Q : State → Prop} {w : fxW} {pc : Nat} {ls : List (Nat × Value)} {st : List Value} (C : fxC G d cc nL "ForkPoolModel" nm ret hh x) {b n0 d' : Nat} {a0 a1 : Value} {P : Outcome → fxW → Prop} (hd : decode cc pc = .ok (.invokevirtual 126, 3)) (hb9 : fxk w b = some (6, n0)) (hM : fxM G d' y_Mo_pull (.ref b :: [a0, a1]) w P) (hdd : d' < d) (hst : (st.map fun v => v.category).sum ≤ 8) (k1 : ∀ v w', P (.returned v) w' → fxR G nL x Q w' (pc + 3) ls (v.toList ++ st)) (k2 : ∀ a w', P (.threw a) w' → fxRt G nL x Q w' pc ls st a) : fxR G nL x Q w pc ls (a1 :: a0 :: .ref b :: st) := r_callV (As := [a0, a1]) (Cn := "ForkPoolModel") (ci := 6) C hd lm_Mo_126 (fxTW_in 914 (by decide +kernel) rfl) (fxTW_in 24 (by decide +kernel) rfl) w_Mo_pull ini_ForkPoolModel (by decide) np_Mo_pull (by decide) (by decide) rfl hb9 hM hdd hst rfl k1 k2
theorem lm_Mo_133 : Cond.methodLink "ForkPoolModel" 133 y_Mo_node ∈ fxTW := fxTW_in 896 (by decide +kernel) rfl
theorem c_Mo_133 {G : fxG} {d nL : Nat} {cc : ByteArray} {nm : String} {ret : Option FieldType} {hh : List (Nat × Nat × Nat × Nat)} {x : fxX} {Q : State → Prop} {w : fxW} {pc : Nat} {ls : List (Nat × Value)} {st : List Value} (C : fxC G d cc nL "ForkPoolModel" nm ret hh x) {b n0 d' : Nat} {a0 a1 a2 a3 : Value} {P : Outcome → fxW → Prop} (hd : decode cc pc = .ok (.invokevirtual 133, 3)) (hb9 : fxk w b = some (6, n0)) (hM : fxM G d' y_Mo_node (.ref b :: [a0, a1, a2, a3]) w P) (hdd : d' < d) (hst : (st.map fun v => v.category).sum ≤ 8) (k1 : ∀ v w', P (.returned v) w' → fxR G nL x Q w' (pc + 3) ls (v.toList ++ st)) (k2 : ∀ a w', P (.threw a) w' → fxRt G nL x Q w' pc ls st a) : fxR G nL x Q w pc ls (a3 :: a2 :: a1 :: a0 :: .ref b :: st) := r_callV (As := [a0, a1, a2, a3]) (Cn := "ForkPoolModel") (ci := 6) C hd lm_Mo_133 (fxTW_in 898 (by decide +kernel) rfl) (fxTW_in 21 (by decide +kernel) rfl) w_Mo_node ini_ForkPoolModel (by decide) np_Mo_node (by decide) (by decide) rfl hb9 hM hdd hst rfl k1 k2
theorem lm_Mo_137 : Cond.methodLink "ForkPoolModel" 137 y_Mo_put ∈ fxTW := fxTW_in 900 (by decide +kernel) rfl
theorem c_Mo_137 {G : fxG} {d nL : Nat} {cc : ByteArray} {nm : String} {ret : Option FieldType} {hh : List (Nat × Nat × Nat × Nat)} {x : fxX} {Q : State → Prop} {w : fxW} {pc : Nat} {ls : List (Nat × Value)} {st : List Value} (C : fxC G d cc nL "ForkPoolModel" nm ret hh x) {b n0 d' : Nat} {a0 a1 : Value} {P : Outcome → fxW → Prop} (hd : decode cc pc = .ok (.invokevirtual 137, 3)) (hb9 : fxk w b = some (6, n0)) (hM : fxM G d' y_Mo_put (.ref b :: [a0, a1]) w P) (hdd : d' < d) (hst : (st.map fun v => v.category).sum ≤ 8) (k1 : ∀ v w', P (.returned v) w' → fxR G nL x Q w' (pc + 3) ls (v.toList ++ st)) (k2 : ∀ a w', P (.threw a) w' → fxRt G nL x Q w' pc ls st a) : fxR G nL x Q w pc ls (a1 :: a0 :: .ref b :: st) := r_callV (As := [a0, a1]) (Cn := "ForkPoolModel") (ci := 6) C hd lm_Mo_137 (fxTW_in 902 (by decide +kernel) rfl) (fxTW_in 22 (by decide +kernel) rfl) w_Mo_put ini_ForkPoolModel (by decide) np_Mo_put (by decide) (by decide) rfl hb9 hM hdd hst rfl k1 k2
theorem lm_Mo_149 : Cond.methodLink "ForkPoolModel" 149 y_Mo_joined ∈ fxTW := fxTW_in 924 (by decide +kernel) rfl
theorem c_Mo_149 {G : fxG} {d nL : Nat} {cc : ByteArray} {nm : String} {ret : Option FieldType} {hh : List (Nat × Nat × Nat × Nat)} {x : fxX} {Q : State → Prop} {w : fxW} {pc : Nat} {ls : List (Nat × Value)} {st : List Value} (C : fxC G d cc nL "ForkPoolModel" nm ret hh x) {b n0 d' : Nat} {a0 a1 a2 : Value} {P : Outcome → fxW → Prop} (hd : decode cc pc = .ok (.invokevirtual 149, 3)) (hb9 : fxk w b = some (6, n0)) (hM : fxM G d' y_Mo_joined (.ref b :: [a0, a1, a2]) w P) (hdd : d' < d) (hst : (st.map fun v => v.category).sum ≤ 8) (k1 : ∀ v w', P (.returned v) w' → fxR G nL x Q w' (pc + 3) ls (v.toList ++ st)) (k2 : ∀ a w', P (.threw a) w' → fxRt G nL x Q w' pc ls st a) : fxR G nL x Q w pc ls (a2 :: a1 :: a0 :: .ref b :: st) := r_callV (As := [a0, a1, a2]) (Cn := "ForkPoolModel") (ci := 6) C hd lm_Mo_149 (fxTW_in 926 (by decide +kernel) rfl) (fxTW_in 27 (by decide +kernel) rfl) w_Mo_joined ini_ForkPoolModel (by decide) np_Mo_joined (by decide) (by decide) rfl hb9 hM hdd hst rfl k1 k2
theorem lm_Mo_153 : Cond.methodLink "ForkPoolModel" 153 y_Mo_reduced ∈ fxTW := fxTW_in 932 (by decide +kernel) rfl
theorem c_Mo_153 {G : fxG} {d nL : Nat} {cc : ByteArray} {nm : String} {ret : Option FieldType} {hh : List (Nat × Nat × Nat × Nat)} {x : fxX} {Q : State → Prop} {w : fxW} {pc : Nat} {ls : List (Nat × Value)} {st : List Value} (C : fxC G d cc nL "ForkPoolModel" nm ret hh x) {b n0 d' : Nat} {a0 : Value} {P : Outcome → fxW → Prop} (hd : decode cc pc = .ok (.invokevirtual 153, 3)) (hb9 : fxk w b = some (6, n0)) (hM : fxM G d' y_Mo_reduced (.ref b :: [a0]) w P) (hdd : d' < d) (hst : (st.map fun v => v.category).sum ≤ 8) (k1 : ∀ v w', P (.returned v) w' → fxR G nL x Q w' (pc + 3) ls (v.toList ++ st)) (k2 : ∀ a w', P (.threw a) w' → fxRt G nL x Q w' pc ls st a) : fxR G nL x Q w pc ls (a0 :: .ref b :: st) := r_callV (As := [a0]) (Cn := "ForkPoolModel") (ci := 6) C hd lm_Mo_153 (fxTW_in 934 (by decide +kernel) rfl) (fxTW_in 29 (by decide +kernel) rfl) w_Mo_reduced ini_ForkPoolModel (by decide) np_Mo_reduced (by decide) (by decide) rfl hb9 hM hdd hst rfl k1 k2
theorem lm_Mo_157 : Cond.methodLink "ForkPoolModel" 157 y_Mo_spread ∈ fxTW := fxTW_in 936 (by decide +kernel) rfl
theorem c_Mo_157 {G : fxG} {d nL : Nat} {cc : ByteArray} {nm : String} {ret : Option FieldType} {hh : List (Nat × Nat × Nat × Nat)} {x : fxX} {Q : State → Prop} {w : fxW} {pc : Nat} {ls : List (Nat × Value)} {st : List Value} (C : fxC G d cc nL "ForkPoolModel" nm ret hh x) {b n0 d' : Nat} {a0 : Value} {P : Outcome → fxW → Prop} (hd : decode cc pc = .ok (.invokevirtual 157, 3)) (hb9 : fxk w b = some (6, n0)) (hM : fxM G d' y_Mo_spread (.ref b :: [a0]) w P) (hdd : d' < d) (hst : (st.map fun v => v.category).sum ≤ 8) (k1 : ∀ v w', P (.returned v) w' → fxR G nL x Q w' (pc + 3) ls (v.toList ++ st)) (k2 : ∀ a w', P (.threw a) w' → fxRt G nL x Q w' pc ls st a) : fxR G nL x Q w pc ls (a0 :: .ref b :: st) := r_callV (As := [a0]) (Cn := "ForkPoolModel") (ci := 6) C hd lm_Mo_157 (fxTW_in 938 (by decide +kernel) rfl) (fxTW_in 30 (by decide +kernel) rfl) w_Mo_spread ini_ForkPoolModel (by decide) np_Mo_spread (by decide) (by decide) rfl hb9 hM hdd hst rfl k1 k2
theorem lm_Mo_161 : Cond.methodLink "ForkPoolModel" 161 y_Mo_order ∈ fxTW := fxTW_in 940 (by decide +kernel) rfl
theorem c_Mo_161 {G : fxG} {d nL : Nat} {cc : ByteArray} {nm : String} {ret : Option FieldType} {hh : List (Nat × Nat × Nat × Nat)} {x : fxX} {Q : State → Prop} {w : fxW} {pc : Nat} {ls : List (Nat × Value)} {st : List Value} (C : fxC G d cc nL "ForkPoolModel" nm ret hh x) {b n0 d' : Nat} {a0 a1 a2 : Value} {P : Outcome → fxW → Prop} (hd : decode cc pc = .ok (.invokevirtual 161, 3)) (hb9 : fxk w b = some (6, n0)) (hM : fxM G d' y_Mo_order (.ref b :: [a0, a1, a2]) w P) (hdd : d' < d) (hst : (st.map fun v => v.category).sum ≤ 8) (k1 : ∀ v w', P (.returned v) w' → fxR G nL x Q w' (pc + 3) ls (v.toList ++ st)) (k2 : ∀ a w', P (.threw a) w' → fxRt G nL x Q w' pc ls st a) : fxR G nL x Q w pc ls (a2 :: a1 :: a0 :: .ref b :: st) := r_callV (As := [a0, a1, a2]) (Cn := "ForkPoolModel") (ci := 6) C hd lm_Mo_161 (fxTW_in 942 (by decide +kernel) rfl) (fxTW_in 31 (by decide +kernel) rfl) w_Mo_order ini_ForkPoolModel (by decide) np_Mo_order (by decide) (by decide) rfl hb9 hM hdd hst rfl k1 k2
theorem lm_Mo_165 : Cond.methodLink "ForkPoolModel" 165 y_Mo_end ∈ fxTW := fxTW_in 944 (by decide +kernel) rfl
theorem c_Mo_165 {G : fxG} {d nL : Nat} {cc : ByteArray} {nm : String} {ret : Option FieldType} {hh : List (Nat × Nat × Nat × Nat)} {x : fxX} {Q : State → Prop} {w : fxW} {pc : Nat} {ls : List (Nat × Value)} {st : List Value} (C : fxC G d cc nL "ForkPoolModel" nm ret hh x) {b n0 d' : Nat} {a0 a1 : Value} {P : Outcome → fxW → Prop} (hd : decode cc pc = .ok (.invokevirtual 165, 3)) (hb9 : fxk w b = some (6, n0)) (hM : fxM G d' y_Mo_end (.ref b :: [a0, a1]) w P) (hdd : d' < d) (hst : (st.map fun v => v.category).sum ≤ 8) (k1 : ∀ v w', P (.returned v) w' → fxR G nL x Q w' (pc + 3) ls (v.toList ++ st)) (k2 : ∀ a w', P (.threw a) w' → fxRt G nL x Q w' pc ls st a) : fxR G nL x Q w pc ls (a1 :: a0 :: .ref b :: st) := r_callV (As := [a0, a1]) (Cn := "ForkPoolModel") (ci := 6) C hd lm_Mo_165 (fxTW_in 946 (by decide +kernel) rfl) (fxTW_in 32 (by decide +kernel) rfl) w_Mo_end ini_ForkPoolModel (by decide) np_Mo_end (by decide) (by decide) rfl hb9 hM hdd hst rfl k1 k2
theorem lm_Mo_168 : Cond.methodLink "ForkPoolModel" 168 y_Mo_mapped ∈ fxTW := fxTW_in 948 (by decide +kernel) rfl
theorem c_Mo_168 {G : fxG} {d nL : Nat} {cc : ByteArray} {nm : String} {ret : Option FieldType} {hh : List (Nat × Nat × Nat × Nat)} {x : fxX} {Q : State → Prop} {w : fxW} {pc : Nat} {ls : List (Nat × Value)} {st : List Value} (C : fxC G d cc nL "ForkPoolModel" nm ret hh x) {b n0 d' : Nat} {a0 a1 : Value} {P : Outcome → fxW → Prop} (hd : decode cc pc = .ok (.invokevirtual 168, 3)) (hb9 : fxk w b = some (6, n0)) (hM : fxM G d' y_Mo_mapped (.ref b :: [a0, a1]) w P) (hdd : d' < d) (hst : (st.map fun v => v.category).sum ≤ 8) (k1 : ∀ v w', P (.returned v) w' → fxR G nL x Q w' (pc + 3) ls (v.toList ++ st)) (k2 : ∀ a w', P (.threw a) w' → fxRt G nL x Q w' pc ls st a) : fxR G nL x Q w pc ls (a1 :: a0 :: .ref b :: st) := r_callV (As := [a0, a1]) (Cn := "ForkPoolModel") (ci := 6) C hd lm_Mo_168 (fxTW_in 950 (by decide +kernel) rfl) (fxTW_in 33 (by decide +kernel) rfl) w_Mo_mapped ini_ForkPoolModel (by decide) np_Mo_mapped (by decide) (by decide) rfl hb9 hM hdd hst rfl k1 k2
theorem lm_Mo_171 : Cond.methodLink "ForkPoolModel" 171 y_Mo_shared ∈ fxTW := fxTW_in 953 (by decide +kernel) rfl
theorem c_Mo_171 {G : fxG} {d nL : Nat} {cc : ByteArray} {nm : String} {ret : Option FieldType} {hh : List (Nat × Nat × Nat × Nat)} {x : fxX} {Q : State → Prop} {w : fxW} {pc : Nat} {ls : List (Nat × Value)} {st : List Value} (C : fxC G d cc nL "ForkPoolModel" nm ret hh x) {b n0 d' : Nat} {a0 a1 : Value} {P : Outcome → fxW → Prop} (hd : decode cc pc = .ok (.invokevirtual 171, 3)) (hb9 : fxk w b = some (6, n0)) (hM : fxM G d' y_Mo_shared (.ref b :: [a0, a1]) w P) (hdd : d' < d) (hst : (st.map fun v => v.category).sum ≤ 8) (k1 : ∀ v w', P (.returned v) w' → fxR G nL x Q w' (pc + 3) ls (v.toList ++ st)) (k2 : ∀ a w', P (.threw a) w' → fxRt G nL x Q w' pc ls st a) : fxR G nL x Q w pc ls (a1 :: a0 :: .ref b :: st) := r_callV (As := [a0, a1]) (Cn := "ForkPoolModel") (ci := 6) C hd lm_Mo_171 (fxTW_in 955 (by decide +kernel) rfl) (fxTW_in 34 (by decide +kernel) rfl) w_Mo_shared ini_ForkPoolModel (by decide) np_Mo_shared (by decide) (by decide) rfl hb9 hM hdd hst rfl k1 k2
theorem lm_Mo_174 : Cond.methodLink "ForkPoolModel" 174 y_Mo_fork ∈ fxTW := fxTW_in 920 (by decide +kernel) rfl
theorem c_Mo_174 {G : fxG} {d nL : Nat} {cc : ByteArray} {nm : String} {ret : Option FieldType} {hh : List (Nat × Nat × Nat × Nat)} {x : fxX} {Q : State → Prop} {w : fxW} {pc : Nat} {ls : List (Nat × Value)} {st : List Value} (C : fxC G d cc nL "ForkPoolModel" nm ret hh x) {b n0 d' : Nat} {a0 a1 : Value} {P : Outcome → fxW → Prop} (hd : decode cc pc = .ok (.invokevirtual 174, 3)) (hb9 : fxk w b = some (6, n0)) (hM : fxM G d' y_Mo_fork (.ref b :: [a0, a1]) w P) (hdd : d' < d) (hst : (st.map fun v => v.category).sum ≤ 8) (k1 : ∀ v w', P (.returned v) w' → fxR G nL x Q w' (pc + 3) ls (v.toList ++ st)) (k2 : ∀ a w', P (.threw a) w' → fxRt G nL x Q w' pc ls st a) : fxR G nL x Q w pc ls (a1 :: a0 :: .ref b :: st) := r_callV (As := [a0, a1]) (Cn := "ForkPoolModel") (ci := 6) C hd lm_Mo_174 (fxTW_in 922 (by decide +kernel) rfl) (fxTW_in 26 (by decide +kernel) rfl) w_Mo_fork ini_ForkPoolModel (by decide) np_Mo_fork (by decide) (by decide) rfl hb9 hM hdd hst rfl k1 k2
theorem lm_Mo_177 : Cond.methodLink "ForkPoolModel" 177 y_Mo_leaf ∈ fxTW := fxTW_in 928 (by decide +kernel) rfl
theorem c_Mo_177 {G : fxG} {d nL : Nat} {cc : ByteArray} {nm : String} {ret : Option FieldType} {hh : List (Nat × Nat × Nat × Nat)} {x : fxX} {Q : State → Prop} {w : fxW} {pc : Nat} {ls : List (Nat × Value)} {st : List Value} (C : fxC G d cc nL "ForkPoolModel" nm ret hh x) {b n0 d' : Nat} {a0 : Value} {P : Outcome → fxW → Prop} (hd : decode cc pc = .ok (.invokevirtual 177, 3)) (hb9 : fxk w b = some (6, n0)) (hM : fxM G d' y_Mo_leaf (.ref b :: [a0]) w P) (hdd : d' < d) (hst : (st.map fun v => v.category).sum ≤ 8) (k1 : ∀ v w', P (.returned v) w' → fxR G nL x Q w' (pc + 3) ls (v.toList ++ st)) (k2 : ∀ a w', P (.threw a) w' → fxRt G nL x Q w' pc ls st a) : fxR G nL x Q w pc ls (a0 :: .ref b :: st) := r_callV (As := [a0]) (Cn := "ForkPoolModel") (ci := 6) C hd lm_Mo_177 (fxTW_in 930 (by decide +kernel) rfl) (fxTW_in 28 (by decide +kernel) rfl) w_Mo_leaf ini_ForkPoolModel (by decide) np_Mo_leaf (by decide) (by decide) rfl hb9 hM hdd hst rfl k1 k2
theorem lm_Mo_180 : Cond.methodLink "ForkPoolModel" 180 y_Mo_finished ∈ fxTW := fxTW_in 961 (by decide +kernel) rfl
theorem c_Mo_180 {G : fxG} {d nL : Nat} {cc : ByteArray} {nm : String} {ret : Option FieldType} {hh : List (Nat × Nat × Nat × Nat)} {x : fxX} {Q : State → Prop} {w : fxW} {pc : Nat} {ls : List (Nat × Value)} {st : List Value} (C : fxC G d cc nL "ForkPoolModel" nm ret hh x) {b n0 d' : Nat} {a0 a1 : Value} {P : Outcome → fxW → Prop} (hd : decode cc pc = .ok (.invokevirtual 180, 3)) (hb9 : fxk w b = some (6, n0)) (hM : fxM G d' y_Mo_finished (.ref b :: [a0, a1]) w P) (hdd : d' < d) (hst : (st.map fun v => v.category).sum ≤ 8) (k1 : ∀ v w', P (.returned v) w' → fxR G nL x Q w' (pc + 3) ls (v.toList ++ st)) (k2 : ∀ a w', P (.threw a) w' → fxRt G nL x Q w' pc ls st a) : fxR G nL x Q w pc ls (a1 :: a0 :: .ref b :: st) := r_callV (As := [a0, a1]) (Cn := "ForkPoolModel") (ci := 6) C hd lm_Mo_180 (fxTW_in 963 (by decide +kernel) rfl) (fxTW_in 35 (by decide +kernel) rfl) w_Mo_finished ini_ForkPoolModel (by decide) np_Mo_finished (by decide) (by decide) rfl hb9 hM hdd hst rfl k1 k2
theorem lm_Mo_189 : Cond.methodLink "ForkPoolModel" 189 y_Mo_perform ∈ fxTW := fxTW_in 916 (by decide +kernel) rfl
theorem c_Mo_189 {G : fxG} {d nL : Nat} {cc : ByteArray} {nm : String} {ret : Option FieldType} {hh : List (Nat × Nat × Nat × Nat)} {x : fxX} {Q : State → Prop} {w : fxW} {pc : Nat} {ls : List (Nat × Value)} {st : List Value} (C : fxC G d cc nL "ForkPoolModel" nm ret hh x) {b n0 d' : Nat} {a0 a1 : Value} {P : Outcome → fxW → Prop} (hd : decode cc pc = .ok (.invokevirtual 189, 3)) (hb9 : fxk w b = some (6, n0)) (hM : fxM G d' y_Mo_perform (.ref b :: [a0, a1]) w P) (hdd : d' < d) (hst : (st.map fun v => v.category).sum ≤ 8) (k1 : ∀ v w', P (.returned v) w' → fxR G nL x Q w' (pc + 3) ls (v.toList ++ st)) (k2 : ∀ a w', P (.threw a) w' → fxRt G nL x Q w' pc ls st a) : fxR G nL x Q w pc ls (a1 :: a0 :: .ref b :: st) := r_callV (As := [a0, a1]) (Cn := "ForkPoolModel") (ci := 6) C hd lm_Mo_189 (fxTW_in 918 (by decide +kernel) rfl) (fxTW_in 25 (by decide +kernel) rfl) w_Mo_perform ini_ForkPoolModel (by decide) np_Mo_perform (by decide) (by decide) rfl hb9 hM hdd hst rfl k1 k2
theorem lm_Mo_192 : Cond.methodLink "ForkPoolModel" 192 y_Mo_turns ∈ fxTW := fxTW_in 908 (by decide +kernel) rfl
theorem c_Mo_192 {G : fxG} {d nL : Nat} {cc : ByteArray} {nm : String} {ret : Option FieldType} {hh : List (Nat × Nat × Nat × Nat)} {x : fxX} {Q : State → Prop} {w : fxW} {pc : Nat} {ls : List (Nat × Value)} {st : List Value} (C : fxC G d cc nL "ForkPoolModel" nm ret hh x) {b n0 d' : Nat} {P : Outcome → fxW → Prop} (hd : decode cc pc = .ok (.invokevirtual 192, 3)) (hb9 : fxk w b = some (6, n0)) (hM : fxM G d' y_Mo_turns (.ref b :: []) w P) (hdd : d' < d) (hst : (st.map fun v => v.category).sum ≤ 8) (k1 : ∀ v w', P (.returned v) w' → fxR G nL x Q w' (pc + 3) ls (v.toList ++ st)) (k2 : ∀ a w', P (.threw a) w' → fxRt G nL x Q w' pc ls st a) : fxR G nL x Q w pc ls (.ref b :: st) := r_callV (As := []) (Cn := "ForkPoolModel") (ci := 6) C hd lm_Mo_192 (fxTW_in 910 (by decide +kernel) rfl) (fxTW_in 23 (by decide +kernel) rfl) w_Mo_turns ini_ForkPoolModel (by decide) np_Mo_turns (by decide) (by decide) rfl hb9 hM hdd hst rfl k1 k2
theorem lm_Mo_196 : Cond.methodLink "ForkPoolModel" 196 y_Mo_noJob ∈ fxTW := fxTW_in 969 (by decide +kernel) rfl
theorem c_Mo_196 {G : fxG} {d nL : Nat} {cc : ByteArray} {nm : String} {ret : Option FieldType} {hh : List (Nat × Nat × Nat × Nat)} {x : fxX} {Q : State → Prop} {w : fxW} {pc : Nat} {ls : List (Nat × Value)} {st : List Value} (C : fxC G d cc nL "ForkPoolModel" nm ret hh x) {b n0 d' : Nat} {a0 : Value} {P : Outcome → fxW → Prop} (hd : decode cc pc = .ok (.invokevirtual 196, 3)) (hb9 : fxk w b = some (6, n0)) (hM : fxM G d' y_Mo_noJob (.ref b :: [a0]) w P) (hdd : d' < d) (hst : (st.map fun v => v.category).sum ≤ 8) (k1 : ∀ v w', P (.returned v) w' → fxR G nL x Q w' (pc + 3) ls (v.toList ++ st)) (k2 : ∀ a w', P (.threw a) w' → fxRt G nL x Q w' pc ls st a) : fxR G nL x Q w pc ls (a0 :: .ref b :: st) := r_callV (As := [a0]) (Cn := "ForkPoolModel") (ci := 6) C hd lm_Mo_196 (fxTW_in 971 (by decide +kernel) rfl) (fxTW_in 36 (by decide +kernel) rfl) w_Mo_noJob ini_ForkPoolModel (by decide) np_Mo_noJob (by decide) (by decide) rfl hb9 hM hdd hst rfl k1 k2
theorem lm_Mo_199 : Cond.methodLink "ForkPoolModel" 199 y_Mo_inQueues ∈ fxTW := fxTW_in 981 (by decide +kernel) rfl
theorem c_Mo_199 {G : fxG} {d nL : Nat} {cc : ByteArray} {nm : String} {ret : Option FieldType} {hh : List (Nat × Nat × Nat × Nat)} {x : fxX} {Q : State → Prop} {w : fxW} {pc : Nat} {ls : List (Nat × Value)} {st : List Value} (C : fxC G d cc nL "ForkPoolModel" nm ret hh x) {b n0 d' : Nat} {a0 : Value} {P : Outcome → fxW → Prop} (hd : decode cc pc = .ok (.invokevirtual 199, 3)) (hb9 : fxk w b = some (6, n0)) (hM : fxM G d' y_Mo_inQueues (.ref b :: [a0]) w P) (hdd : d' < d) (hst : (st.map fun v => v.category).sum ≤ 8) (k1 : ∀ v w', P (.returned v) w' → fxR G nL x Q w' (pc + 3) ls (v.toList ++ st)) (k2 : ∀ a w', P (.threw a) w' → fxRt G nL x Q w' pc ls st a) : fxR G nL x Q w pc ls (a0 :: .ref b :: st) := r_callV (As := [a0]) (Cn := "ForkPoolModel") (ci := 6) C hd lm_Mo_199 (fxTW_in 983 (by decide +kernel) rfl) (fxTW_in 37 (by decide +kernel) rfl) w_Mo_inQueues ini_ForkPoolModel (by decide) np_Mo_inQueues (by decide) (by decide) rfl hb9 hM hdd hst rfl k1 k2
theorem p_Mo_7F {G : fxG} {d nL : Nat} {cc : ByteArray} {nm : String} {ret : Option FieldType} {hh : List (Nat × Nat × Nat × Nat)} {x : fxX} {Q : State → Prop} {w : fxW} {pc : Nat} {ls : List (Nat × Value)} {st : List Value} (C : fxC G d cc nL "ForkPoolModel" "<init>" ret hh x) {a n : Nat} {v : Value} (hd : decode cc pc = .ok (.putfield 7, 3)) (hn : narrow (tMo 2) v = v) (hfit : fits (tMo 2) v = true) (ha : fxk w a = some (6, n)) (k : fxR G nL x Q (fx_put w 386 a v) (pc + 3) ls st) : fxR G nL x Q w pc ls (v :: .ref a :: st) := r_putF (Cn := RMo) (T := FMo) (N := 33) (ci := 6) (k0 := 2) C hd rfl (by decide) inMo tMo tyMo nmMo (by decide) lk_Mo_7 (Or.inl rfl) rfl rfl (tyMo 2 (by decide)) hn hfit ha k
theorem p_Mo_13F {G : fxG} {d nL : Nat} {cc : ByteArray} {nm : String} {ret : Option FieldType} {hh : List (Nat × Nat × Nat × Nat)} {x : fxX} {Q : State → Prop} {w : fxW} {pc : Nat} {ls : List (Nat × Value)} {st : List Value} (C : fxC G d cc nL "ForkPoolModel" "<init>" ret hh x) {a n : Nat} {v : Value} (hd : decode cc pc = .ok (.putfield 13, 3)) (hn : narrow (tMo 3) v = v) (hfit : fits (tMo 3) v = true) (ha : fxk w a = some (6, n)) (k : fxR G nL x Q (fx_put w 387 a v) (pc + 3) ls st) : fxR G nL x Q w pc ls (v :: .ref a :: st) := r_putF (Cn := RMo) (T := FMo) (N := 33) (ci := 6) (k0 := 3) C hd rfl (by decide) inMo tMo tyMo nmMo (by decide) lk_Mo_13 (Or.inl rfl) rfl rfl (tyMo 3 (by decide)) hn hfit ha k
theorem p_Mo_16F {G : fxG} {d nL : Nat} {cc : ByteArray} {nm : String} {ret : Option FieldType} {hh : List (Nat × Nat × Nat × Nat)} {x : fxX} {Q : State → Prop} {w : fxW} {pc : Nat} {ls : List (Nat × Value)} {st : List Value} (C : fxC G d cc nL "ForkPoolModel" "<init>" ret hh x) {a n : Nat} {v : Value} (hd : decode cc pc = .ok (.putfield 16, 3)) (hn : narrow (tMo 4) v = v) (hfit : fits (tMo 4) v = true) (ha : fxk w a = some (6, n)) (k : fxR G nL x Q (fx_put w 388 a v) (pc + 3) ls st) : fxR G nL x Q w pc ls (v :: .ref a :: st) := r_putF (Cn := RMo) (T := FMo) (N := 33) (ci := 6) (k0 := 4) C hd rfl (by decide) inMo tMo tyMo nmMo (by decide) lk_Mo_16 (Or.inl rfl) rfl rfl (tyMo 4 (by decide)) hn hfit ha k
theorem p_Mo_20F {G : fxG} {d nL : Nat} {cc : ByteArray} {nm : String} {ret : Option FieldType} {hh : List (Nat × Nat × Nat × Nat)} {x : fxX} {Q : State → Prop} {w : fxW} {pc : Nat} {ls : List (Nat × Value)} {st : List Value} (C : fxC G d cc nL "ForkPoolModel" "<init>" ret hh x) {a n : Nat} {v : Value} (hd : decode cc pc = .ok (.putfield 20, 3)) (hn : narrow (tMo 5) v = v) (hfit : fits (tMo 5) v = true) (ha : fxk w a = some (6, n)) (k : fxR G nL x Q (fx_put w 389 a v) (pc + 3) ls st) : fxR G nL x Q w pc ls (v :: .ref a :: st) := r_putF (Cn := RMo) (T := FMo) (N := 33) (ci := 6) (k0 := 5) C hd rfl (by decide) inMo tMo tyMo nmMo (by decide) lk_Mo_20 (Or.inl rfl) rfl rfl (tyMo 5 (by decide)) hn hfit ha k
theorem p_Mo_23F {G : fxG} {d nL : Nat} {cc : ByteArray} {nm : String} {ret : Option FieldType} {hh : List (Nat × Nat × Nat × Nat)} {x : fxX} {Q : State → Prop} {w : fxW} {pc : Nat} {ls : List (Nat × Value)} {st : List Value} (C : fxC G d cc nL "ForkPoolModel" "<init>" ret hh x) {a n : Nat} {v : Value} (hd : decode cc pc = .ok (.putfield 23, 3)) (hn : narrow (tMo 6) v = v) (hfit : fits (tMo 6) v = true) (ha : fxk w a = some (6, n)) (k : fxR G nL x Q (fx_put w 390 a v) (pc + 3) ls st) : fxR G nL x Q w pc ls (v :: .ref a :: st) := r_putF (Cn := RMo) (T := FMo) (N := 33) (ci := 6) (k0 := 6) C hd rfl (by decide) inMo tMo tyMo nmMo (by decide) lk_Mo_23 (Or.inl rfl) rfl rfl (tyMo 6 (by decide)) hn hfit ha k
theorem p_Mo_26F {G : fxG} {d nL : Nat} {cc : ByteArray} {nm : String} {ret : Option FieldType} {hh : List (Nat × Nat × Nat × Nat)} {x : fxX} {Q : State → Prop} {w : fxW} {pc : Nat} {ls : List (Nat × Value)} {st : List Value} (C : fxC G d cc nL "ForkPoolModel" "<init>" ret hh x) {a n : Nat} {v : Value} (hd : decode cc pc = .ok (.putfield 26, 3)) (hn : narrow (tMo 7) v = v) (hfit : fits (tMo 7) v = true) (ha : fxk w a = some (6, n)) (k : fxR G nL x Q (fx_put w 391 a v) (pc + 3) ls st) : fxR G nL x Q w pc ls (v :: .ref a :: st) := r_putF (Cn := RMo) (T := FMo) (N := 33) (ci := 6) (k0 := 7) C hd rfl (by decide) inMo tMo tyMo nmMo (by decide) lk_Mo_26 (Or.inl rfl) rfl rfl (tyMo 7 (by decide)) hn hfit ha k
theorem p_Mo_29F {G : fxG} {d nL : Nat} {cc : ByteArray} {nm : String} {ret : Option FieldType} {hh : List (Nat × Nat × Nat × Nat)} {x : fxX} {Q : State → Prop} {w : fxW} {pc : Nat} {ls : List (Nat × Value)} {st : List Value} (C : fxC G d cc nL "ForkPoolModel" "<init>" ret hh x) {a n : Nat} {v : Value} (hd : decode cc pc = .ok (.putfield 29, 3)) (hn : narrow (tMo 8) v = v) (hfit : fits (tMo 8) v = true) (ha : fxk w a = some (6, n)) (k : fxR G nL x Q (fx_put w 392 a v) (pc + 3) ls st) : fxR G nL x Q w pc ls (v :: .ref a :: st) := r_putF (Cn := RMo) (T := FMo) (N := 33) (ci := 6) (k0 := 8) C hd rfl (by decide) inMo tMo tyMo nmMo (by decide) lk_Mo_29 (Or.inl rfl) rfl rfl (tyMo 8 (by decide)) hn hfit ha k
theorem p_Mo_32F {G : fxG} {d nL : Nat} {cc : ByteArray} {nm : String} {ret : Option FieldType} {hh : List (Nat × Nat × Nat × Nat)} {x : fxX} {Q : State → Prop} {w : fxW} {pc : Nat} {ls : List (Nat × Value)} {st : List Value} (C : fxC G d cc nL "ForkPoolModel" "<init>" ret hh x) {a n : Nat} {v : Value} (hd : decode cc pc = .ok (.putfield 32, 3)) (hn : narrow (tMo 9) v = v) (hfit : fits (tMo 9) v = true) (ha : fxk w a = some (6, n)) (k : fxR G nL x Q (fx_put w 393 a v) (pc + 3) ls st) : fxR G nL x Q w pc ls (v :: .ref a :: st) := r_putF (Cn := RMo) (T := FMo) (N := 33) (ci := 6) (k0 := 9) C hd rfl (by decide) inMo tMo tyMo nmMo (by decide) lk_Mo_32 (Or.inl rfl) rfl rfl (tyMo 9 (by decide)) hn hfit ha k
theorem p_Mo_35F {G : fxG} {d nL : Nat} {cc : ByteArray} {nm : String} {ret : Option FieldType} {hh : List (Nat × Nat × Nat × Nat)} {x : fxX} {Q : State → Prop} {w : fxW} {pc : Nat} {ls : List (Nat × Value)} {st : List Value} (C : fxC G d cc nL "ForkPoolModel" "<init>" ret hh x) {a n : Nat} {v : Value} (hd : decode cc pc = .ok (.putfield 35, 3)) (hn : narrow (tMo 10) v = v) (hfit : fits (tMo 10) v = true) (ha : fxk w a = some (6, n)) (k : fxR G nL x Q (fx_put w 394 a v) (pc + 3) ls st) : fxR G nL x Q w pc ls (v :: .ref a :: st) := r_putF (Cn := RMo) (T := FMo) (N := 33) (ci := 6) (k0 := 10) C hd rfl (by decide) inMo tMo tyMo nmMo (by decide) lk_Mo_35 (Or.inl rfl) rfl rfl (tyMo 10 (by decide)) hn hfit ha k
theorem p_Mo_38F {G : fxG} {d nL : Nat} {cc : ByteArray} {nm : String} {ret : Option FieldType} {hh : List (Nat × Nat × Nat × Nat)} {x : fxX} {Q : State → Prop} {w : fxW} {pc : Nat} {ls : List (Nat × Value)} {st : List Value} (C : fxC G d cc nL "ForkPoolModel" "<init>" ret hh x) {a n : Nat} {v : Value} (hd : decode cc pc = .ok (.putfield 38, 3)) (hn : narrow (tMo 11) v = v) (hfit : fits (tMo 11) v = true) (ha : fxk w a = some (6, n)) (k : fxR G nL x Q (fx_put w 395 a v) (pc + 3) ls st) : fxR G nL x Q w pc ls (v :: .ref a :: st) := r_putF (Cn := RMo) (T := FMo) (N := 33) (ci := 6) (k0 := 11) C hd rfl (by decide) inMo tMo tyMo nmMo (by decide) lk_Mo_38 (Or.inl rfl) rfl rfl (tyMo 11 (by decide)) hn hfit ha k
theorem p_Mo_41F {G : fxG} {d nL : Nat} {cc : ByteArray} {nm : String} {ret : Option FieldType} {hh : List (Nat × Nat × Nat × Nat)} {x : fxX} {Q : State → Prop} {w : fxW} {pc : Nat} {ls : List (Nat × Value)} {st : List Value} (C : fxC G d cc nL "ForkPoolModel" "<init>" ret hh x) {a n : Nat} {v : Value} (hd : decode cc pc = .ok (.putfield 41, 3)) (hn : narrow (tMo 12) v = v) (hfit : fits (tMo 12) v = true) (ha : fxk w a = some (6, n)) (k : fxR G nL x Q (fx_put w 396 a v) (pc + 3) ls st) : fxR G nL x Q w pc ls (v :: .ref a :: st) := r_putF (Cn := RMo) (T := FMo) (N := 33) (ci := 6) (k0 := 12) C hd rfl (by decide) inMo tMo tyMo nmMo (by decide) lk_Mo_41 (Or.inl rfl) rfl rfl (tyMo 12 (by decide)) hn hfit ha k
theorem p_Mo_44F {G : fxG} {d nL : Nat} {cc : ByteArray} {nm : String} {ret : Option FieldType} {hh : List (Nat × Nat × Nat × Nat)} {x : fxX} {Q : State → Prop} {w : fxW} {pc : Nat} {ls : List (Nat × Value)} {st : List Value} (C : fxC G d cc nL "ForkPoolModel" "<init>" ret hh x) {a n : Nat} {v : Value} (hd : decode cc pc = .ok (.putfield 44, 3)) (hn : narrow (tMo 13) v = v) (hfit : fits (tMo 13) v = true) (ha : fxk w a = some (6, n)) (k : fxR G nL x Q (fx_put w 397 a v) (pc + 3) ls st) : fxR G nL x Q w pc ls (v :: .ref a :: st) := r_putF (Cn := RMo) (T := FMo) (N := 33) (ci := 6) (k0 := 13) C hd rfl (by decide) inMo tMo tyMo nmMo (by decide) lk_Mo_44 (Or.inl rfl) rfl rfl (tyMo 13 (by decide)) hn hfit ha k
theorem p_Mo_47F {G : fxG} {d nL : Nat} {cc : ByteArray} {nm : String} {ret : Option FieldType} {hh : List (Nat × Nat × Nat × Nat)} {x : fxX} {Q : State → Prop} {w : fxW} {pc : Nat} {ls : List (Nat × Value)} {st : List Value} (C : fxC G d cc nL "ForkPoolModel" "<init>" ret hh x) {a n : Nat} {v : Value} (hd : decode cc pc = .ok (.putfield 47, 3)) (hn : narrow (tMo 15) v = v) (hfit : fits (tMo 15) v = true) (ha : fxk w a = some (6, n)) (k : fxR G nL x Q (fx_put w 399 a v) (pc + 3) ls st) : fxR G nL x Q w pc ls (v :: .ref a :: st) := r_putF (Cn := RMo) (T := FMo) (N := 33) (ci := 6) (k0 := 15) C hd rfl (by decide) inMo tMo tyMo nmMo (by decide) lk_Mo_47 (Or.inl rfl) rfl rfl (tyMo 15 (by decide)) hn hfit ha k
theorem p_Mo_50F {G : fxG} {d nL : Nat} {cc : ByteArray} {nm : String} {ret : Option FieldType} {hh : List (Nat × Nat × Nat × Nat)} {x : fxX} {Q : State → Prop} {w : fxW} {pc : Nat} {ls : List (Nat × Value)} {st : List Value} (C : fxC G d cc nL "ForkPoolModel" "<init>" ret hh x) {a n : Nat} {v : Value} (hd : decode cc pc = .ok (.putfield 50, 3)) (hn : narrow (tMo 16) v = v) (hfit : fits (tMo 16) v = true) (ha : fxk w a = some (6, n)) (k : fxR G nL x Q (fx_put w 400 a v) (pc + 3) ls st) : fxR G nL x Q w pc ls (v :: .ref a :: st) := r_putF (Cn := RMo) (T := FMo) (N := 33) (ci := 6) (k0 := 16) C hd rfl (by decide) inMo tMo tyMo nmMo (by decide) lk_Mo_50 (Or.inl rfl) rfl rfl (tyMo 16 (by decide)) hn hfit ha k
theorem p_Mo_53F {G : fxG} {d nL : Nat} {cc : ByteArray} {nm : String} {ret : Option FieldType} {hh : List (Nat × Nat × Nat × Nat)} {x : fxX} {Q : State → Prop} {w : fxW} {pc : Nat} {ls : List (Nat × Value)} {st : List Value} (C : fxC G d cc nL "ForkPoolModel" "<init>" ret hh x) {a n : Nat} {v : Value} (hd : decode cc pc = .ok (.putfield 53, 3)) (hn : narrow (tMo 17) v = v) (hfit : fits (tMo 17) v = true) (ha : fxk w a = some (6, n)) (k : fxR G nL x Q (fx_put w 401 a v) (pc + 3) ls st) : fxR G nL x Q w pc ls (v :: .ref a :: st) := r_putF (Cn := RMo) (T := FMo) (N := 33) (ci := 6) (k0 := 17) C hd rfl (by decide) inMo tMo tyMo nmMo (by decide) lk_Mo_53 (Or.inl rfl) rfl rfl (tyMo 17 (by decide)) hn hfit ha k
theorem p_Mo_56F {G : fxG} {d nL : Nat} {cc : ByteArray} {nm : String} {ret : Option FieldType} {hh : List (Nat × Nat × Nat × Nat)} {x : fxX} {Q : State → Prop} {w : fxW} {pc : Nat} {ls : List (Nat × Value)} {st : List Value} (C : fxC G d cc nL "ForkPoolModel" "<init>" ret hh x) {a n : Nat} {v : Value} (hd : decode cc pc = .ok (.putfield 56, 3)) (hn : narrow (tMo 18) v = v) (hfit : fits (tMo 18) v = true) (ha : fxk w a = some (6, n)) (k : fxR G nL x Q (fx_put w 402 a v) (pc + 3) ls st) : fxR G nL x Q w pc ls (v :: .ref a :: st) := r_putF (Cn := RMo) (T := FMo) (N := 33) (ci := 6) (k0 := 18) C hd rfl (by decide) inMo tMo tyMo nmMo (by decide) lk_Mo_56 (Or.inl rfl) rfl rfl (tyMo 18 (by decide)) hn hfit ha k
theorem p_Mo_59F {G : fxG} {d nL : Nat} {cc : ByteArray} {nm : String} {ret : Option FieldType} {hh : List (Nat × Nat × Nat × Nat)} {x : fxX} {Q : State → Prop} {w : fxW} {pc : Nat} {ls : List (Nat × Value)} {st : List Value} (C : fxC G d cc nL "ForkPoolModel" "<init>" ret hh x) {a n : Nat} {v : Value} (hd : decode cc pc = .ok (.putfield 59, 3)) (hn : narrow (tMo 19) v = v) (hfit : fits (tMo 19) v = true) (ha : fxk w a = some (6, n)) (k : fxR G nL x Q (fx_put w 403 a v) (pc + 3) ls st) : fxR G nL x Q w pc ls (v :: .ref a :: st) := r_putF (Cn := RMo) (T := FMo) (N := 33) (ci := 6) (k0 := 19) C hd rfl (by decide) inMo tMo tyMo nmMo (by decide) lk_Mo_59 (Or.inl rfl) rfl rfl (tyMo 19 (by decide)) hn hfit ha k
theorem p_Mo_62F {G : fxG} {d nL : Nat} {cc : ByteArray} {nm : String} {ret : Option FieldType} {hh : List (Nat × Nat × Nat × Nat)} {x : fxX} {Q : State → Prop} {w : fxW} {pc : Nat} {ls : List (Nat × Value)} {st : List Value} (C : fxC G d cc nL "ForkPoolModel" "<init>" ret hh x) {a n : Nat} {v : Value} (hd : decode cc pc = .ok (.putfield 62, 3)) (hn : narrow (tMo 20) v = v) (hfit : fits (tMo 20) v = true) (ha : fxk w a = some (6, n)) (k : fxR G nL x Q (fx_put w 404 a v) (pc + 3) ls st) : fxR G nL x Q w pc ls (v :: .ref a :: st) := r_putF (Cn := RMo) (T := FMo) (N := 33) (ci := 6) (k0 := 20) C hd rfl (by decide) inMo tMo tyMo nmMo (by decide) lk_Mo_62 (Or.inl rfl) rfl rfl (tyMo 20 (by decide)) hn hfit ha k
theorem p_Mo_65F {G : fxG} {d nL : Nat} {cc : ByteArray} {nm : String} {ret : Option FieldType} {hh : List (Nat × Nat × Nat × Nat)} {x : fxX} {Q : State → Prop} {w : fxW} {pc : Nat} {ls : List (Nat × Value)} {st : List Value} (C : fxC G d cc nL "ForkPoolModel" "<init>" ret hh x) {a n : Nat} {v : Value} (hd : decode cc pc = .ok (.putfield 65, 3)) (hn : narrow (tMo 21) v = v) (hfit : fits (tMo 21) v = true) (ha : fxk w a = some (6, n)) (k : fxR G nL x Q (fx_put w 405 a v) (pc + 3) ls st) : fxR G nL x Q w pc ls (v :: .ref a :: st) := r_putF (Cn := RMo) (T := FMo) (N := 33) (ci := 6) (k0 := 21) C hd rfl (by decide) inMo tMo tyMo nmMo (by decide) lk_Mo_65 (Or.inl rfl) rfl rfl (tyMo 21 (by decide)) hn hfit ha k
theorem p_Mo_68F {G : fxG} {d nL : Nat} {cc : ByteArray} {nm : String} {ret : Option FieldType} {hh : List (Nat × Nat × Nat × Nat)} {x : fxX} {Q : State → Prop} {w : fxW} {pc : Nat} {ls : List (Nat × Value)} {st : List Value} (C : fxC G d cc nL "ForkPoolModel" "<init>" ret hh x) {a n : Nat} {v : Value} (hd : decode cc pc = .ok (.putfield 68, 3)) (hn : narrow (tMo 22) v = v) (hfit : fits (tMo 22) v = true) (ha : fxk w a = some (6, n)) (k : fxR G nL x Q (fx_put w 406 a v) (pc + 3) ls st) : fxR G nL x Q w pc ls (v :: .ref a :: st) := r_putF (Cn := RMo) (T := FMo) (N := 33) (ci := 6) (k0 := 22) C hd rfl (by decide) inMo tMo tyMo nmMo (by decide) lk_Mo_68 (Or.inl rfl) rfl rfl (tyMo 22 (by decide)) hn hfit ha k
theorem p_Mo_71F {G : fxG} {d nL : Nat} {cc : ByteArray} {nm : String} {ret : Option FieldType} {hh : List (Nat × Nat × Nat × Nat)} {x : fxX} {Q : State → Prop} {w : fxW} {pc : Nat} {ls : List (Nat × Value)} {st : List Value} (C : fxC G d cc nL "ForkPoolModel" "<init>" ret hh x) {a n : Nat} {v : Value} (hd : decode cc pc = .ok (.putfield 71, 3)) (hn : narrow (tMo 24) v = v) (hfit : fits (tMo 24) v = true) (ha : fxk w a = some (6, n)) (k : fxR G nL x Q (fx_put w 408 a v) (pc + 3) ls st) : fxR G nL x Q w pc ls (v :: .ref a :: st) := r_putF (Cn := RMo) (T := FMo) (N := 33) (ci := 6) (k0 := 24) C hd rfl (by decide) inMo tMo tyMo nmMo (by decide) lk_Mo_71 (Or.inl rfl) rfl rfl (tyMo 24 (by decide)) hn hfit ha k
theorem p_Mo_74F {G : fxG} {d nL : Nat} {cc : ByteArray} {nm : String} {ret : Option FieldType} {hh : List (Nat × Nat × Nat × Nat)} {x : fxX} {Q : State → Prop} {w : fxW} {pc : Nat} {ls : List (Nat × Value)} {st : List Value} (C : fxC G d cc nL "ForkPoolModel" "<init>" ret hh x) {a n : Nat} {v : Value} (hd : decode cc pc = .ok (.putfield 74, 3)) (hn : narrow (tMo 25) v = v) (hfit : fits (tMo 25) v = true) (ha : fxk w a = some (6, n)) (k : fxR G nL x Q (fx_put w 409 a v) (pc + 3) ls st) : fxR G nL x Q w pc ls (v :: .ref a :: st) := r_putF (Cn := RMo) (T := FMo) (N := 33) (ci := 6) (k0 := 25) C hd rfl (by decide) inMo tMo tyMo nmMo (by decide) lk_Mo_74 (Or.inl rfl) rfl rfl (tyMo 25 (by decide)) hn hfit ha k
theorem p_Mo_77F {G : fxG} {d nL : Nat} {cc : ByteArray} {nm : String} {ret : Option FieldType} {hh : List (Nat × Nat × Nat × Nat)} {x : fxX} {Q : State → Prop} {w : fxW} {pc : Nat} {ls : List (Nat × Value)} {st : List Value} (C : fxC G d cc nL "ForkPoolModel" "<init>" ret hh x) {a n : Nat} {v : Value} (hd : decode cc pc = .ok (.putfield 77, 3)) (hn : narrow (tMo 26) v = v) (hfit : fits (tMo 26) v = true) (ha : fxk w a = some (6, n)) (k : fxR G nL x Q (fx_put w 410 a v) (pc + 3) ls st) : fxR G nL x Q w pc ls (v :: .ref a :: st) := r_putF (Cn := RMo) (T := FMo) (N := 33) (ci := 6) (k0 := 26) C hd rfl (by decide) inMo tMo tyMo nmMo (by decide) lk_Mo_77 (Or.inl rfl) rfl rfl (tyMo 26 (by decide)) hn hfit ha k
theorem p_Mo_80F {G : fxG} {d nL : Nat} {cc : ByteArray} {nm : String} {ret : Option FieldType} {hh : List (Nat × Nat × Nat × Nat)} {x : fxX} {Q : State → Prop} {w : fxW} {pc : Nat} {ls : List (Nat × Value)} {st : List Value} (C : fxC G d cc nL "ForkPoolModel" "<init>" ret hh x) {a n : Nat} {v : Value} (hd : decode cc pc = .ok (.putfield 80, 3)) (hn : narrow (tMo 27) v = v) (hfit : fits (tMo 27) v = true) (ha : fxk w a = some (6, n)) (k : fxR G nL x Q (fx_put w 411 a v) (pc + 3) ls st) : fxR G nL x Q w pc ls (v :: .ref a :: st) := r_putF (Cn := RMo) (T := FMo) (N := 33) (ci := 6) (k0 := 27) C hd rfl (by decide) inMo tMo tyMo nmMo (by decide) lk_Mo_80 (Or.inl rfl) rfl rfl (tyMo 27 (by decide)) hn hfit ha k
theorem p_Mo_83F {G : fxG} {d nL : Nat} {cc : ByteArray} {nm : String} {ret : Option FieldType} {hh : List (Nat × Nat × Nat × Nat)} {x : fxX} {Q : State → Prop} {w : fxW} {pc : Nat} {ls : List (Nat × Value)} {st : List Value} (C : fxC G d cc nL "ForkPoolModel" "<init>" ret hh x) {a n : Nat} {v : Value} (hd : decode cc pc = .ok (.putfield 83, 3)) (hn : narrow (tMo 28) v = v) (hfit : fits (tMo 28) v = true) (ha : fxk w a = some (6, n)) (k : fxR G nL x Q (fx_put w 412 a v) (pc + 3) ls st) : fxR G nL x Q w pc ls (v :: .ref a :: st) := r_putF (Cn := RMo) (T := FMo) (N := 33) (ci := 6) (k0 := 28) C hd rfl (by decide) inMo tMo tyMo nmMo (by decide) lk_Mo_83 (Or.inl rfl) rfl rfl (tyMo 28 (by decide)) hn hfit ha k
theorem p_Mo_86F {G : fxG} {d nL : Nat} {cc : ByteArray} {nm : String} {ret : Option FieldType} {hh : List (Nat × Nat × Nat × Nat)} {x : fxX} {Q : State → Prop} {w : fxW} {pc : Nat} {ls : List (Nat × Value)} {st : List Value} (C : fxC G d cc nL "ForkPoolModel" "<init>" ret hh x) {a n : Nat} {v : Value} (hd : decode cc pc = .ok (.putfield 86, 3)) (hn : narrow (tMo 29) v = v) (hfit : fits (tMo 29) v = true) (ha : fxk w a = some (6, n)) (k : fxR G nL x Q (fx_put w 413 a v) (pc + 3) ls st) : fxR G nL x Q w pc ls (v :: .ref a :: st) := r_putF (Cn := RMo) (T := FMo) (N := 33) (ci := 6) (k0 := 29) C hd rfl (by decide) inMo tMo tyMo nmMo (by decide) lk_Mo_86 (Or.inl rfl) rfl rfl (tyMo 29 (by decide)) hn hfit ha k
theorem p_Mo_89 {G : fxG} {d nL : Nat} {cc : ByteArray} {nm : String} {ret : Option FieldType} {hh : List (Nat × Nat × Nat × Nat)} {x : fxX} {Q : State → Prop} {w : fxW} {pc : Nat} {ls : List (Nat × Value)} {st : List Value} (C : fxC G d cc nL "ForkPoolModel" nm ret hh x) {a n : Nat} {v : Value} (hd : decode cc pc = .ok (.putfield 89, 3)) (hn : narrow (tMo 30) v = v) (hfit : fits (tMo 30) v = true) (ha : fxk w a = some (6, n)) (k : fxR G nL x Q (fx_put w 414 a v) (pc + 3) ls st) : fxR G nL x Q w pc ls (v :: .ref a :: st) := r_put (Cn := RMo) (T := FMo) (N := 33) (ci := 6) (k0 := 30) C hd rfl (by decide) inMo tMo tyMo nmMo (by decide) lk_Mo_89 (Or.inl rfl) rfl (tyMo 30 (by decide)) hn hfit ha k
theorem p_Mo_93F {G : fxG} {d nL : Nat} {cc : ByteArray} {nm : String} {ret : Option FieldType} {hh : List (Nat × Nat × Nat × Nat)} {x : fxX} {Q : State → Prop} {w : fxW} {pc : Nat} {ls : List (Nat × Value)} {st : List Value} (C : fxC G d cc nL "ForkPoolModel" "<init>" ret hh x) {a n : Nat} {v : Value} (hd : decode cc pc = .ok (.putfield 93, 3)) (hn : narrow (tMo 1) v = v) (hfit : fits (tMo 1) v = true) (ha : fxk w a = some (6, n)) (k : fxR G nL x Q (fx_put w 385 a v) (pc + 3) ls st) : fxR G nL x Q w pc ls (v :: .ref a :: st) := r_putF (Cn := RMo) (T := FMo) (N := 33) (ci := 6) (k0 := 1) C hd rfl (by decide) inMo tMo tyMo nmMo (by decide) lk_Mo_93 (Or.inl rfl) rfl rfl (tyMo 1 (by decide)) hn hfit ha k
theorem p_Mo_96 {G : fxG} {d nL : Nat} {cc : ByteArray} {nm : String} {ret : Option FieldType} {hh : List (Nat × Nat × Nat × Nat)} {x : fxX} {Q : State → Prop} {w : fxW} {pc : Nat} {ls : List (Nat × Value)} {st : List Value} (C : fxC G d cc nL "ForkPoolModel" nm ret hh x) {a n : Nat} {v : Value} (hd : decode cc pc = .ok (.putfield 96, 3)) (hn : narrow (tMo 0) v = v) (hfit : fits (tMo 0) v = true) (ha : fxk w a = some (6, n)) (k : fxR G nL x Q (fx_put w 384 a v) (pc + 3) ls st) : fxR G nL x Q w pc ls (v :: .ref a :: st) := r_put (Cn := RMo) (T := FMo) (N := 33) (ci := 6) (k0 := 0) C hd rfl (by decide) inMo tMo tyMo nmMo (by decide) lk_Mo_96 (Or.inl rfl) rfl (tyMo 0 (by decide)) hn hfit ha k
theorem p_Mo_103 {G : fxG} {d nL : Nat} {cc : ByteArray} {nm : String} {ret : Option FieldType} {hh : List (Nat × Nat × Nat × Nat)} {x : fxX} {Q : State → Prop} {w : fxW} {pc : Nat} {ls : List (Nat × Value)} {st : List Value} (C : fxC G d cc nL "ForkPoolModel" nm ret hh x) {a n : Nat} {v : Value} (hd : decode cc pc = .ok (.putfield 103, 3)) (hn : narrow (tMo 14) v = v) (hfit : fits (tMo 14) v = true) (ha : fxk w a = some (6, n)) (k : fxR G nL x Q (fx_put w 398 a v) (pc + 3) ls st) : fxR G nL x Q w pc ls (v :: .ref a :: st) := r_put (Cn := RMo) (T := FMo) (N := 33) (ci := 6) (k0 := 14) C hd rfl (by decide) inMo tMo tyMo nmMo (by decide) lk_Mo_103 (Or.inl rfl) rfl (tyMo 14 (by decide)) hn hfit ha k
theorem p_Mo_130 {G : fxG} {d nL : Nat} {cc : ByteArray} {nm : String} {ret : Option FieldType} {hh : List (Nat × Nat × Nat × Nat)} {x : fxX} {Q : State → Prop} {w : fxW} {pc : Nat} {ls : List (Nat × Value)} {st : List Value} (C : fxC G d cc nL "ForkPoolModel" nm ret hh x) {a n : Nat} {v : Value} (hd : decode cc pc = .ok (.putfield 130, 3)) (hn : narrow (tMo 23) v = v) (hfit : fits (tMo 23) v = true) (ha : fxk w a = some (6, n)) (k : fxR G nL x Q (fx_put w 407 a v) (pc + 3) ls st) : fxR G nL x Q w pc ls (v :: .ref a :: st) := r_put (Cn := RMo) (T := FMo) (N := 33) (ci := 6) (k0 := 23) C hd rfl (by decide) inMo tMo tyMo nmMo (by decide) lk_Mo_130 (Or.inl rfl) rfl (tyMo 23 (by decide)) hn hfit ha k
theorem p_Mo_183 {G : fxG} {d nL : Nat} {cc : ByteArray} {nm : String} {ret : Option FieldType} {hh : List (Nat × Nat × Nat × Nat)} {x : fxX} {Q : State → Prop} {w : fxW} {pc : Nat} {ls : List (Nat × Value)} {st : List Value} (C : fxC G d cc nL "ForkPoolModel" nm ret hh x) {a n : Nat} {v : Value} (hd : decode cc pc = .ok (.putfield 183, 3)) (hn : narrow (tMo 32) v = v) (hfit : fits (tMo 32) v = true) (ha : fxk w a = some (6, n)) (k : fxR G nL x Q (fx_put w 416 a v) (pc + 3) ls st) : fxR G nL x Q w pc ls (v :: .ref a :: st) := r_put (Cn := RMo) (T := FMo) (N := 33) (ci := 6) (k0 := 32) C hd rfl (by decide) inMo tMo tyMo nmMo (by decide) lk_Mo_183 (Or.inl rfl) rfl (tyMo 32 (by decide)) hn hfit ha k
theorem p_Mo_186 {G : fxG} {d nL : Nat} {cc : ByteArray} {nm : String} {ret : Option FieldType} {hh : List (Nat × Nat × Nat × Nat)} {x : fxX} {Q : State → Prop} {w : fxW} {pc : Nat} {ls : List (Nat × Value)} {st : List Value} (C : fxC G d cc nL "ForkPoolModel" nm ret hh x) {a n : Nat} {v : Value} (hd : decode cc pc = .ok (.putfield 186, 3)) (hn : narrow (tMo 31) v = v) (hfit : fits (tMo 31) v = true) (ha : fxk w a = some (6, n)) (k : fxR G nL x Q (fx_put w 415 a v) (pc + 3) ls st) : fxR G nL x Q w pc ls (v :: .ref a :: st) := r_put (Cn := RMo) (T := FMo) (N := 33) (ci := 6) (k0 := 31) C hd rfl (by decide) inMo tMo tyMo nmMo (by decide) lk_Mo_186 (Or.inl rfl) rfl (tyMo 31 (by decide)) hn hfit ha k
theorem lm_Ob_105 : Cond.methodLink "java/util/Objects" 105 y_Pc_checkIndex ∈ fxTW := fxTW_in 523 (by decide +kernel) rfl
theorem c_Ob_105 {G : fxG} {d nL : Nat} {cc : ByteArray} {nm : String} {ret : Option FieldType} {hh : List (Nat × Nat × Nat × Nat)} {x : fxX} {Q : State → Prop} {w : fxW} {pc : Nat} {ls : List (Nat × Value)} {st : List Value} (C : fxC G d cc nL "java/util/Objects" nm ret hh x) {d' : Nat} {a0 a1 a2 : Value} {P : Outcome → fxW → Prop} (hd : decode cc pc = .ok (.invokestatic 105, 3)) (hM : fxM G d' y_Pc_checkIndex [a0, a1, a2] w P) (hdd : d' < d) (hst : (st.map fun v => v.category).sum ≤ 8) (k1 : ∀ v w', P (.returned v) w' → fxR G nL x Q w' (pc + 3) ls (v.toList ++ st)) (k2 : ∀ a w', P (.threw a) w' → fxRt G nL x Q w' pc ls st a) : fxR G nL x Q w pc ls (a2 :: a1 :: a0 :: st) := r_callS (As := [a0, a1, a2]) C hd lm_Ob_105 (fxTW_in 524 (by decide +kernel) rfl) w_Pc_checkIndex ini_jdk_internal_util_Preconditions (by decide) np_Pc_checkIndex (by decide) hM hdd hst rfl k1 k2
-- no method word Pc 95 invokestatic
theorem lk_Row_9 : Cond.fieldLink "ForkPool$Row" 9 "ForkPool$Row" "elements" "[J" ∈ fxTW := fxTW_in 77 (by decide +kernel) rfl
theorem g_Row_9 {G : fxG} {d nL : Nat} {cc : ByteArray} {nm : String} {ret : Option FieldType} {hh : List (Nat × Nat × Nat × Nat)} {x : fxX} {Q : State → Prop} {w : fxW} {pc : Nat} {ls : List (Nat × Value)} {st : List Value} (C : fxC G d cc nL "ForkPool$Row" nm ret hh x) {a n : Nat} {v : Value} (hd : decode cc pc = .ok (.getfield 9, 3)) (ha : fxk w a = some (1, n)) (hv : fxf w 64 a = v) (k : fxR G nL x Q w (pc + 3) ls (v :: st)) : fxR G nL x Q w pc ls (.ref a :: st) := r_get (Cn := RRow) (T := FRow) (N := 3) (ci := 1) (k0 := 0) C hd rfl (by decide) inRow (by decide) lk_Row_9 (Or.inl rfl) ha hv k
theorem lk_Row_15 : Cond.fieldLink "ForkPool$Row" 15 "ForkPool$Row" "type" "I" ∈ fxTW := fxTW_in 79 (by decide +kernel) rfl
theorem g_Row_15 {G : fxG} {d nL : Nat} {cc : ByteArray} {nm : String} {ret : Option FieldType} {hh : List (Nat × Nat × Nat × Nat)} {x : fxX} {Q : State → Prop} {w : fxW} {pc : Nat} {ls : List (Nat × Value)} {st : List Value} (C : fxC G d cc nL "ForkPool$Row" nm ret hh x) {a n : Nat} {v : Value} (hd : decode cc pc = .ok (.getfield 15, 3)) (ha : fxk w a = some (1, n)) (hv : fxf w 65 a = v) (k : fxR G nL x Q w (pc + 3) ls (v :: st)) : fxR G nL x Q w pc ls (.ref a :: st) := r_get (Cn := RRow) (T := FRow) (N := 3) (ci := 1) (k0 := 1) C hd rfl (by decide) inRow (by decide) lk_Row_15 (Or.inl rfl) ha hv k
theorem o_Row_3 {G : fxG} {d nL : Nat} {cc : ByteArray} {nm : String} {ret : Option FieldType} {hh : List (Nat × Nat × Nat × Nat)} {x : fxX} {Q : State → Prop} {w : fxW} {pc : Nat} {ls : List (Nat × Value)} {st : List Value} (C : fxC G d cc nL "ForkPool$Row" nm ret hh x) {b : Nat} (hd : decode cc pc = .ok (.invokespecial 3, 3)) (h1 : 1 ≤ d) (hst : (st.map fun v => v.category).sum ≤ 8) (k : fxR G nL x Q w (pc + 3) ls st) : fxR G nL x Q w pc ls (.ref b :: st) := r_objInit C hd (fxTW_in 76 (by decide +kernel) rfl) (fxTW_in 68 (by decide +kernel) rfl) (fxTW_in 69 (by decide +kernel) rfl) h1 hst k
theorem lm_Row_26 : Cond.methodLink "ForkPool$Row" 26 y_Ma_minL ∈ fxTW := fxTW_in 318 (by decide +kernel) rfl
theorem c_Row_26 {G : fxG} {d nL : Nat} {cc : ByteArray} {nm : String} {ret : Option FieldType} {hh : List (Nat × Nat × Nat × Nat)} {x : fxX} {Q : State → Prop} {w : fxW} {pc : Nat} {ls : List (Nat × Value)} {st : List Value} (C : fxC G d cc nL "ForkPool$Row" nm ret hh x) {d' : Nat} {a0 a1 : Value} {P : Outcome → fxW → Prop} (hd : decode cc pc = .ok (.invokestatic 26, 3)) (hM : fxM G d' y_Ma_minL [a0, a1] w P) (hdd : d' < d) (hst : (st.map fun v => v.category).sum ≤ 8) (k1 : ∀ v w', P (.returned v) w' → fxR G nL x Q w' (pc + 3) ls (v.toList ++ st)) (k2 : ∀ a w', P (.threw a) w' → fxRt G nL x Q w' pc ls st a) : fxR G nL x Q w pc ls (a1 :: a0 :: st) := r_callS (As := [a0, a1]) C hd lm_Row_26 (fxTW_in 319 (by decide +kernel) rfl) w_Ma_minL ini_java_lang_Math (by decide) np_Ma_minL (by decide) hM hdd hst rfl k1 k2
theorem lm_Row_32 : Cond.methodLink "ForkPool$Row" 32 y_Ma_maxL ∈ fxTW := fxTW_in 321 (by decide +kernel) rfl
theorem c_Row_32 {G : fxG} {d nL : Nat} {cc : ByteArray} {nm : String} {ret : Option FieldType} {hh : List (Nat × Nat × Nat × Nat)} {x : fxX} {Q : State → Prop} {w : fxW} {pc : Nat} {ls : List (Nat × Value)} {st : List Value} (C : fxC G d cc nL "ForkPool$Row" nm ret hh x) {d' : Nat} {a0 a1 : Value} {P : Outcome → fxW → Prop} (hd : decode cc pc = .ok (.invokestatic 32, 3)) (hM : fxM G d' y_Ma_maxL [a0, a1] w P) (hdd : d' < d) (hst : (st.map fun v => v.category).sum ≤ 8) (k1 : ∀ v w', P (.returned v) w' → fxR G nL x Q w' (pc + 3) ls (v.toList ++ st)) (k2 : ∀ a w', P (.threw a) w' → fxRt G nL x Q w' pc ls st a) : fxR G nL x Q w pc ls (a1 :: a0 :: st) := r_callS (As := [a0, a1]) C hd lm_Row_32 (fxTW_in 322 (by decide +kernel) rfl) w_Ma_maxL ini_java_lang_Math (by decide) np_Ma_maxL (by decide) hM hdd hst rfl k1 k2
theorem lm_Row_45 : Cond.methodLink "ForkPool$Row" 45 y_Ma_floorDiv ∈ fxTW := fxTW_in 586 (by decide +kernel) rfl
theorem c_Row_45 {G : fxG} {d nL : Nat} {cc : ByteArray} {nm : String} {ret : Option FieldType} {hh : List (Nat × Nat × Nat × Nat)} {x : fxX} {Q : State → Prop} {w : fxW} {pc : Nat} {ls : List (Nat × Value)} {st : List Value} (C : fxC G d cc nL "ForkPool$Row" nm ret hh x) {d' : Nat} {a0 a1 : Value} {P : Outcome → fxW → Prop} (hd : decode cc pc = .ok (.invokestatic 45, 3)) (hM : fxM G d' y_Ma_floorDiv [a0, a1] w P) (hdd : d' < d) (hst : (st.map fun v => v.category).sum ≤ 8) (k1 : ∀ v w', P (.returned v) w' → fxR G nL x Q w' (pc + 3) ls (v.toList ++ st)) (k2 : ∀ a w', P (.threw a) w' → fxRt G nL x Q w' pc ls st a) : fxR G nL x Q w pc ls (a1 :: a0 :: st) := r_callS (As := [a0, a1]) C hd lm_Row_45 (fxTW_in 587 (by decide +kernel) rfl) w_Ma_floorDiv ini_java_lang_Math (by decide) np_Ma_floorDiv (by decide) hM hdd hst rfl k1 k2
theorem lm_Row_35 : Cond.methodLink "ForkPool$Row" 35 y_Row_kept ∈ fxTW := fxTW_in 560 (by decide +kernel) rfl
theorem c_Row_35 {G : fxG} {d nL : Nat} {cc : ByteArray} {nm : String} {ret : Option FieldType} {hh : List (Nat × Nat × Nat × Nat)} {x : fxX} {Q : State → Prop} {w : fxW} {pc : Nat} {ls : List (Nat × Value)} {st : List Value} (C : fxC G d cc nL "ForkPool$Row" nm ret hh x) {b n0 d' : Nat} {a0 : Value} {P : Outcome → fxW → Prop} (hd : decode cc pc = .ok (.invokevirtual 35, 3)) (hb9 : fxk w b = some (1, n0)) (hM : fxM G d' y_Row_kept (.ref b :: [a0]) w P) (hdd : d' < d) (hst : (st.map fun v => v.category).sum ≤ 8) (k1 : ∀ v w', P (.returned v) w' → fxR G nL x Q w' (pc + 3) ls (v.toList ++ st)) (k2 : ∀ a w', P (.threw a) w' → fxRt G nL x Q w' pc ls st a) : fxR G nL x Q w pc ls (a0 :: .ref b :: st) := r_callV (As := [a0]) (Cn := "ForkPool$Row") (ci := 1) C hd lm_Row_35 (fxTW_in 313 (by decide +kernel) rfl) (fxTW_in 314 (by decide +kernel) rfl) w_Row_kept ini_ForkPool_Row (by decide) np_Row_kept (by decide) (by decide) rfl hb9 hM hdd hst rfl k1 k2
theorem lm_Row_39 : Cond.methodLink "ForkPool$Row" 39 y_Row_isInEighths ∈ fxTW := fxTW_in 577 (by decide +kernel) rfl
theorem c_Row_39 {G : fxG} {d nL : Nat} {cc : ByteArray} {nm : String} {ret : Option FieldType} {hh : List (Nat × Nat × Nat × Nat)} {x : fxX} {Q : State → Prop} {w : fxW} {pc : Nat} {ls : List (Nat × Value)} {st : List Value} (C : fxC G d cc nL "ForkPool$Row" nm ret hh x) {b n0 d' : Nat} {P : Outcome → fxW → Prop} (hd : decode cc pc = .ok (.invokevirtual 39, 3)) (hb9 : fxk w b = some (1, n0)) (hM : fxM G d' y_Row_isInEighths (.ref b :: []) w P) (hdd : d' < d) (hst : (st.map fun v => v.category).sum ≤ 8) (k1 : ∀ v w', P (.returned v) w' → fxR G nL x Q w' (pc + 3) ls (v.toList ++ st)) (k2 : ∀ a w', P (.threw a) w' → fxRt G nL x Q w' pc ls st a) : fxR G nL x Q w pc ls (.ref b :: st) := r_callV (As := []) (Cn := "ForkPool$Row") (ci := 1) C hd lm_Row_39 (fxTW_in 578 (by decide +kernel) rfl) (fxTW_in 579 (by decide +kernel) rfl) w_Row_isInEighths ini_ForkPool_Row (by decide) np_Row_isInEighths (by decide) (by decide) rfl hb9 hM hdd hst rfl k1 k2
theorem p_Row_9F {G : fxG} {d nL : Nat} {cc : ByteArray} {nm : String} {ret : Option FieldType} {hh : List (Nat × Nat × Nat × Nat)} {x : fxX} {Q : State → Prop} {w : fxW} {pc : Nat} {ls : List (Nat × Value)} {st : List Value} (C : fxC G d cc nL "ForkPool$Row" "<init>" ret hh x) {a n : Nat} {v : Value} (hd : decode cc pc = .ok (.putfield 9, 3)) (hn : narrow (tRow 0) v = v) (hfit : fits (tRow 0) v = true) (ha : fxk w a = some (1, n)) (k : fxR G nL x Q (fx_put w 64 a v) (pc + 3) ls st) : fxR G nL x Q w pc ls (v :: .ref a :: st) := r_putF (Cn := RRow) (T := FRow) (N := 3) (ci := 1) (k0 := 0) C hd rfl (by decide) inRow tRow tyRow nmRow (by decide) lk_Row_9 (Or.inl rfl) rfl rfl (tyRow 0 (by decide)) hn hfit ha k
theorem p_Row_15 {G : fxG} {d nL : Nat} {cc : ByteArray} {nm : String} {ret : Option FieldType} {hh : List (Nat × Nat × Nat × Nat)} {x : fxX} {Q : State → Prop} {w : fxW} {pc : Nat} {ls : List (Nat × Value)} {st : List Value} (C : fxC G d cc nL "ForkPool$Row" nm ret hh x) {a n : Nat} {v : Value} (hd : decode cc pc = .ok (.putfield 15, 3)) (hn : narrow (tRow 1) v = v) (hfit : fits (tRow 1) v = true) (ha : fxk w a = some (1, n)) (k : fxR G nL x Q (fx_put w 65 a v) (pc + 3) ls st) : fxR G nL x Q w pc ls (v :: .ref a :: st) := r_put (Cn := RRow) (T := FRow) (N := 3) (ci := 1) (k0 := 1) C hd rfl (by decide) inRow tRow tyRow nmRow (by decide) lk_Row_15 (Or.inl rfl) rfl (tyRow 1 (by decide)) hn hfit ha k
theorem lk_Row_19 : Cond.fieldLink "ForkPool$Row" 19 "ForkPool$Row" "length" "I" ∈ fxTW := fxTW_in 80 (by decide +kernel) rfl
theorem p_Row_19 {G : fxG} {d nL : Nat} {cc : ByteArray} {nm : String} {ret : Option FieldType} {hh : List (Nat × Nat × Nat × Nat)} {x : fxX} {Q : State → Prop} {w : fxW} {pc : Nat} {ls : List (Nat × Value)} {st : List Value} (C : fxC G d cc nL "ForkPool$Row" nm ret hh x) {a n : Nat} {v : Value} (hd : decode cc pc = .ok (.putfield 19, 3)) (hn : narrow (tRow 2) v = v) (hfit : fits (tRow 2) v = true) (ha : fxk w a = some (1, n)) (k : fxR G nL x Q (fx_put w 66 a v) (pc + 3) ls st) : fxR G nL x Q w pc ls (v :: .ref a :: st) := r_put (Cn := RRow) (T := FRow) (N := 3) (ci := 1) (k0 := 2) C hd rfl (by decide) inRow tRow tyRow nmRow (by decide) lk_Row_19 (Or.inl rfl) rfl (tyRow 2 (by decide)) hn hfit ha k
theorem lk_Task_7 : Cond.fieldLink "ForkPool$Task" 7 "ForkPool$Task" "job" "LForkPool$Job;" ∈ fxTW := fxTW_in 390 (by decide +kernel) rfl
theorem g_Task_7 {G : fxG} {d nL : Nat} {cc : ByteArray} {nm : String} {ret : Option FieldType} {hh : List (Nat × Nat × Nat × Nat)} {x : fxX} {Q : State → Prop} {w : fxW} {pc : Nat} {ls : List (Nat × Value)} {st : List Value} (C : fxC G d cc nL "ForkPool$Task" nm ret hh x) {a n : Nat} {v : Value} (hd : decode cc pc = .ok (.getfield 7, 3)) (ha : fxk w a = some (3, n)) (hv : fxf w 192 a = v) (k : fxR G nL x Q w (pc + 3) ls (v :: st)) : fxR G nL x Q w pc ls (.ref a :: st) := r_get (Cn := RTask) (T := FTask) (N := 9) (ci := 3) (k0 := 0) C hd rfl (by decide) inTask (by decide) lk_Task_7 (Or.inl rfl) ha hv k
theorem lk_Task_17 : Cond.fieldLink "ForkPool$Task" 17 "ForkPool$Task" "from" "I" ∈ fxTW := fxTW_in 395 (by decide +kernel) rfl
theorem g_Task_17 {G : fxG} {d nL : Nat} {cc : ByteArray} {nm : String} {ret : Option FieldType} {hh : List (Nat × Nat × Nat × Nat)} {x : fxX} {Q : State → Prop} {w : fxW} {pc : Nat} {ls : List (Nat × Value)} {st : List Value} (C : fxC G d cc nL "ForkPool$Task" nm ret hh x) {a n : Nat} {v : Value} (hd : decode cc pc = .ok (.getfield 17, 3)) (ha : fxk w a = some (3, n)) (hv : fxf w 194 a = v) (k : fxR G nL x Q w (pc + 3) ls (v :: st)) : fxR G nL x Q w pc ls (.ref a :: st) := r_get (Cn := RTask) (T := FTask) (N := 9) (ci := 3) (k0 := 2) C hd rfl (by decide) inTask (by decide) lk_Task_17 (Or.inl rfl) ha hv k
theorem lk_Task_21 : Cond.fieldLink "ForkPool$Task" 21 "ForkPool$Task" "to" "I" ∈ fxTW := fxTW_in 398 (by decide +kernel) rfl
theorem g_Task_21 {G : fxG} {d nL : Nat} {cc : ByteArray} {nm : String} {ret : Option FieldType} {hh : List (Nat × Nat × Nat × Nat)} {x : fxX} {Q : State → Prop} {w : fxW} {pc : Nat} {ls : List (Nat × Value)} {st : List Value} (C : fxC G d cc nL "ForkPool$Task" nm ret hh x) {a n : Nat} {v : Value} (hd : decode cc pc = .ok (.getfield 21, 3)) (ha : fxk w a = some (3, n)) (hv : fxf w 195 a = v) (k : fxR G nL x Q w (pc + 3) ls (v :: st)) : fxR G nL x Q w pc ls (.ref a :: st) := r_get (Cn := RTask) (T := FTask) (N := 9) (ci := 3) (k0 := 3) C hd rfl (by decide) inTask (by decide) lk_Task_21 (Or.inl rfl) ha hv k
theorem lk_Task_24 : Cond.fieldLink "ForkPool$Task" 24 "ForkPool$Task" "first" "LForkPool$Task;" ∈ fxTW := fxTW_in 401 (by decide +kernel) rfl
theorem g_Task_24 {G : fxG} {d nL : Nat} {cc : ByteArray} {nm : String} {ret : Option FieldType} {hh : List (Nat × Nat × Nat × Nat)} {x : fxX} {Q : State → Prop} {w : fxW} {pc : Nat} {ls : List (Nat × Value)} {st : List Value} (C : fxC G d cc nL "ForkPool$Task" nm ret hh x) {a n : Nat} {v : Value} (hd : decode cc pc = .ok (.getfield 24, 3)) (ha : fxk w a = some (3, n)) (hv : fxf w 196 a = v) (k : fxR G nL x Q w (pc + 3) ls (v :: st)) : fxR G nL x Q w pc ls (.ref a :: st) := r_get (Cn := RTask) (T := FTask) (N := 9) (ci := 3) (k0 := 4) C hd rfl (by decide) inTask (by decide) lk_Task_24 (Or.inl rfl) ha hv k
theorem lk_Task_27 : Cond.fieldLink "ForkPool$Task" 27 "ForkPool$Task" "second" "LForkPool$Task;" ∈ fxTW := fxTW_in 404 (by decide +kernel) rfl
theorem g_Task_27 {G : fxG} {d nL : Nat} {cc : ByteArray} {nm : String} {ret : Option FieldType} {hh : List (Nat × Nat × Nat × Nat)} {x : fxX} {Q : State → Prop} {w : fxW} {pc : Nat} {ls : List (Nat × Value)} {st : List Value} (C : fxC G d cc nL "ForkPool$Task" nm ret hh x) {a n : Nat} {v : Value} (hd : decode cc pc = .ok (.getfield 27, 3)) (ha : fxk w a = some (3, n)) (hv : fxf w 197 a = v) (k : fxR G nL x Q w (pc + 3) ls (v :: st)) : fxR G nL x Q w pc ls (.ref a :: st) := r_get (Cn := RTask) (T := FTask) (N := 9) (ci := 3) (k0 := 5) C hd rfl (by decide) inTask (by decide) lk_Task_27 (Or.inl rfl) ha hv k
theorem lk_Task_34 : Cond.fieldLink "ForkPool$Task" 34 "ForkPool$Task" "base" "J" ∈ fxTW := fxTW_in 413 (by decide +kernel) rfl
theorem g_Task_34 {G : fxG} {d nL : Nat} {cc : ByteArray} {nm : String} {ret : Option FieldType} {hh : List (Nat × Nat × Nat × Nat)} {x : fxX} {Q : State → Prop} {w : fxW} {pc : Nat} {ls : List (Nat × Value)} {st : List Value} (C : fxC G d cc nL "ForkPool$Task" nm ret hh x) {a n : Nat} {v : Value} (hd : decode cc pc = .ok (.getfield 34, 3)) (ha : fxk w a = some (3, n)) (hv : fxf w 200 a = v) (k : fxR G nL x Q w (pc + 3) ls (v :: st)) : fxR G nL x Q w pc ls (.ref a :: st) := r_get (Cn := RTask) (T := FTask) (N := 9) (ci := 3) (k0 := 8) C hd rfl (by decide) inTask (by decide) lk_Task_34 (Or.inl rfl) ha hv k
theorem lk_Task_38 : Cond.fieldLinkNest "ForkPool$Task" 38 "ForkPool$Job" "row" "LForkPool$Row;" "ForkPool" ∈ fxTW := fxTW_in 351 (by decide +kernel) rfl
theorem g_Task_38 {G : fxG} {d nL : Nat} {cc : ByteArray} {nm : String} {ret : Option FieldType} {hh : List (Nat × Nat × Nat × Nat)} {x : fxX} {Q : State → Prop} {w : fxW} {pc : Nat} {ls : List (Nat × Value)} {st : List Value} (C : fxC G d cc nL "ForkPool$Task" nm ret hh x) {a n : Nat} {v : Value} (hd : decode cc pc = .ok (.getfield 38, 3)) (ha : fxk w a = some (2, n)) (hv : fxf w 130 a = v) (k : fxR G nL x Q w (pc + 3) ls (v :: st)) : fxR G nL x Q w pc ls (.ref a :: st) := r_getN (Cn := RJob) (T := FJob) (N := 10) (ci := 2) (k0 := 2) C hd rfl (by decide) inJob (by decide) lk_Task_38 (Or.inl rfl) ha hv k
theorem lk_Task_44 : Cond.fieldLink "ForkPool$Task" 44 "ForkPool$Task" "result" "J" ∈ fxTW := fxTW_in 410 (by decide +kernel) rfl
theorem g_Task_44 {G : fxG} {d nL : Nat} {cc : ByteArray} {nm : String} {ret : Option FieldType} {hh : List (Nat × Nat × Nat × Nat)} {x : fxX} {Q : State → Prop} {w : fxW} {pc : Nat} {ls : List (Nat × Value)} {st : List Value} (C : fxC G d cc nL "ForkPool$Task" nm ret hh x) {a n : Nat} {v : Value} (hd : decode cc pc = .ok (.getfield 44, 3)) (ha : fxk w a = some (3, n)) (hv : fxf w 199 a = v) (k : fxR G nL x Q w (pc + 3) ls (v :: st)) : fxR G nL x Q w pc ls (.ref a :: st) := r_get (Cn := RTask) (T := FTask) (N := 9) (ci := 3) (k0 := 7) C hd rfl (by decide) inTask (by decide) lk_Task_44 (Or.inl rfl) ha hv k
theorem o_Task_1 {G : fxG} {d nL : Nat} {cc : ByteArray} {nm : String} {ret : Option FieldType} {hh : List (Nat × Nat × Nat × Nat)} {x : fxX} {Q : State → Prop} {w : fxW} {pc : Nat} {ls : List (Nat × Value)} {st : List Value} (C : fxC G d cc nL "ForkPool$Task" nm ret hh x) {b : Nat} (hd : decode cc pc = .ok (.invokespecial 1, 3)) (h1 : 1 ≤ d) (hst : (st.map fun v => v.category).sum ≤ 8) (k : fxR G nL x Q w (pc + 3) ls st) : fxR G nL x Q w pc ls (.ref b :: st) := r_objInit C hd (fxTW_in 389 (by decide +kernel) rfl) (fxTW_in 68 (by decide +kernel) rfl) (fxTW_in 69 (by decide +kernel) rfl) h1 hst k
theorem lm_Task_53 : Cond.methodLink "ForkPool$Task" 53 y_Task_init ∈ fxTW := fxTW_in 551 (by decide +kernel) rfl
theorem c_Task_53 {G : fxG} {d nL : Nat} {cc : ByteArray} {nm : String} {ret : Option FieldType} {hh : List (Nat × Nat × Nat × Nat)} {x : fxX} {Q : State → Prop} {w : fxW} {pc : Nat} {ls : List (Nat × Value)} {st : List Value} (C : fxC G d cc nL "ForkPool$Task" nm ret hh x) {b d' : Nat} {a0 a1 a2 a3 : Value} {P : Outcome → fxW → Prop} (hd : decode cc pc = .ok (.invokespecial 53, 3)) (hM : fxM G d' y_Task_init (.ref b :: [a0, a1, a2, a3]) w P) (hdd : d' < d) (hst : (st.map fun v => v.category).sum ≤ 8) (k1 : ∀ v w', P (.returned v) w' → fxR G nL x Q w' (pc + 3) ls (v.toList ++ st)) (k2 : ∀ a w', P (.threw a) w' → fxRt G nL x Q w' pc ls st a) : fxR G nL x Q w pc ls (a3 :: a2 :: a1 :: a0 :: .ref b :: st) := r_callI (As := [a0, a1, a2, a3]) C hd lm_Task_53 rfl (fxTW_in 387 (by decide +kernel) rfl) w_Task_init ini_ForkPool_Task (by decide) np_Task_init (by decide) hM hdd hst rfl k1 k2
theorem lm_Task_30 : Cond.methodLink "ForkPool$Task" 30 y_Task_hasForked ∈ fxTW := fxTW_in 548 (by decide +kernel) rfl
theorem c_Task_30 {G : fxG} {d nL : Nat} {cc : ByteArray} {nm : String} {ret : Option FieldType} {hh : List (Nat × Nat × Nat × Nat)} {x : fxX} {Q : State → Prop} {w : fxW} {pc : Nat} {ls : List (Nat × Value)} {st : List Value} (C : fxC G d cc nL "ForkPool$Task" nm ret hh x) {b n0 d' : Nat} {P : Outcome → fxW → Prop} (hd : decode cc pc = .ok (.invokevirtual 30, 3)) (hb9 : fxk w b = some (3, n0)) (hM : fxM G d' y_Task_hasForked (.ref b :: []) w P) (hdd : d' < d) (hst : (st.map fun v => v.category).sum ≤ 8) (k1 : ∀ v w', P (.returned v) w' → fxR G nL x Q w' (pc + 3) ls (v.toList ++ st)) (k2 : ∀ a w', P (.threw a) w' → fxRt G nL x Q w' pc ls st a) : fxR G nL x Q w pc ls (.ref b :: st) := r_callV (As := []) (Cn := "ForkPool$Task") (ci := 3) C hd lm_Task_30 (fxTW_in 541 (by decide +kernel) rfl) (fxTW_in 542 (by decide +kernel) rfl) w_Task_hasForked ini_ForkPool_Task (by decide) np_Task_hasForked (by decide) (by decide) rfl hb9 hM hdd hst rfl k1 k2
theorem lm_Task_47 : Cond.methodLink "ForkPool$Task" 47 y_Row_kept ∈ fxTW := fxTW_in 549 (by decide +kernel) rfl
theorem c_Task_47 {G : fxG} {d nL : Nat} {cc : ByteArray} {nm : String} {ret : Option FieldType} {hh : List (Nat × Nat × Nat × Nat)} {x : fxX} {Q : State → Prop} {w : fxW} {pc : Nat} {ls : List (Nat × Value)} {st : List Value} (C : fxC G d cc nL "ForkPool$Task" nm ret hh x) {b n0 d' : Nat} {a0 : Value} {P : Outcome → fxW → Prop} (hd : decode cc pc = .ok (.invokevirtual 47, 3)) (hb9 : fxk w b = some (1, n0)) (hM : fxM G d' y_Row_kept (.ref b :: [a0]) w P) (hdd : d' < d) (hst : (st.map fun v => v.category).sum ≤ 8) (k1 : ∀ v w', P (.returned v) w' → fxR G nL x Q w' (pc + 3) ls (v.toList ++ st)) (k2 : ∀ a w', P (.threw a) w' → fxRt G nL x Q w' pc ls st a) : fxR G nL x Q w pc ls (a0 :: .ref b :: st) := r_callV (As := [a0]) (Cn := "ForkPool$Row") (ci := 1) C hd lm_Task_47 (fxTW_in 313 (by decide +kernel) rfl) (fxTW_in 314 (by decide +kernel) rfl) w_Row_kept ini_ForkPool_Row (by decide) np_Row_kept (by decide) (by decide) rfl hb9 hM hdd hst rfl k1 k2
theorem lc_Task_8 : Cond.classLink "ForkPool$Task" 8 "ForkPool$Task" ∈ fxTW := fxTW_in 550 (by decide +kernel) rfl
theorem n_Task_8 {G : fxG} {d nL : Nat} {cc : ByteArray} {nm : String} {ret : Option FieldType} {hh : List (Nat × Nat × Nat × Nat)} {x : fxX} {Q : State → Prop} {w : fxW} {pc : Nat} {ls : List (Nat × Value)} {st : List Value} (C : fxC G d cc nL "ForkPool$Task" nm ret hh x) (hd : decode cc pc = .ok (.new 8, 3)) (h9 : fxt w + 1 ≤ fxmt G) (h8 : fxu w + 9 ≤ fxmu G) (k : fxR G nL x Q (fx_new w 3 9 (fun k => defaultValue (tTask k))) (pc + 3) ls (.ref (fxt w) :: st)) : fxR G nL x Q w pc ls st := r_new (Cn := RTask) (T := FTask) (N := 9) (ci := 3) C hd rfl (by decide) inTask tTask tyTask lc_Task_8 (fxTW_in 385 (by decide +kernel) rfl) ini_ForkPool_Task (fun _ _ => rfl) h9 h8 k
theorem p_Task_7F {G : fxG} {d nL : Nat} {cc : ByteArray} {nm : String} {ret : Option FieldType} {hh : List (Nat × Nat × Nat × Nat)} {x : fxX} {Q : State → Prop} {w : fxW} {pc : Nat} {ls : List (Nat × Value)} {st : List Value} (C : fxC G d cc nL "ForkPool$Task" "<init>" ret hh x) {a n : Nat} {v : Value} (hd : decode cc pc = .ok (.putfield 7, 3)) (hn : narrow (tTask 0) v = v) (hfit : fits (tTask 0) v = true) (ha : fxk w a = some (3, n)) (k : fxR G nL x Q (fx_put w 192 a v) (pc + 3) ls st) : fxR G nL x Q w pc ls (v :: .ref a :: st) := r_putF (Cn := RTask) (T := FTask) (N := 9) (ci := 3) (k0 := 0) C hd rfl (by decide) inTask tTask tyTask nmTask (by decide) lk_Task_7 (Or.inl rfl) rfl rfl (tyTask 0 (by decide)) hn hfit ha k
theorem lk_Task_13 : Cond.fieldLink "ForkPool$Task" 13 "ForkPool$Task" "parent" "LForkPool$Task;" ∈ fxTW := fxTW_in 393 (by decide +kernel) rfl
theorem p_Task_13F {G : fxG} {d nL : Nat} {cc : ByteArray} {nm : String} {ret : Option FieldType} {hh : List (Nat × Nat × Nat × Nat)} {x : fxX} {Q : State → Prop} {w : fxW} {pc : Nat} {ls : List (Nat × Value)} {st : List Value} (C : fxC G d cc nL "ForkPool$Task" "<init>" ret hh x) {a n : Nat} {v : Value} (hd : decode cc pc = .ok (.putfield 13, 3)) (hn : narrow (tTask 1) v = v) (hfit : fits (tTask 1) v = true) (ha : fxk w a = some (3, n)) (k : fxR G nL x Q (fx_put w 193 a v) (pc + 3) ls st) : fxR G nL x Q w pc ls (v :: .ref a :: st) := r_putF (Cn := RTask) (T := FTask) (N := 9) (ci := 3) (k0 := 1) C hd rfl (by decide) inTask tTask tyTask nmTask (by decide) lk_Task_13 (Or.inl rfl) rfl rfl (tyTask 1 (by decide)) hn hfit ha k
theorem p_Task_17F {G : fxG} {d nL : Nat} {cc : ByteArray} {nm : String} {ret : Option FieldType} {hh : List (Nat × Nat × Nat × Nat)} {x : fxX} {Q : State → Prop} {w : fxW} {pc : Nat} {ls : List (Nat × Value)} {st : List Value} (C : fxC G d cc nL "ForkPool$Task" "<init>" ret hh x) {a n : Nat} {v : Value} (hd : decode cc pc = .ok (.putfield 17, 3)) (hn : narrow (tTask 2) v = v) (hfit : fits (tTask 2) v = true) (ha : fxk w a = some (3, n)) (k : fxR G nL x Q (fx_put w 194 a v) (pc + 3) ls st) : fxR G nL x Q w pc ls (v :: .ref a :: st) := r_putF (Cn := RTask) (T := FTask) (N := 9) (ci := 3) (k0 := 2) C hd rfl (by decide) inTask tTask tyTask nmTask (by decide) lk_Task_17 (Or.inl rfl) rfl rfl (tyTask 2 (by decide)) hn hfit ha k
theorem p_Task_21F {G : fxG} {d nL : Nat} {cc : ByteArray} {nm : String} {ret : Option FieldType} {hh : List (Nat × Nat × Nat × Nat)} {x : fxX} {Q : State → Prop} {w : fxW} {pc : Nat} {ls : List (Nat × Value)} {st : List Value} (C : fxC G d cc nL "ForkPool$Task" "<init>" ret hh x) {a n : Nat} {v : Value} (hd : decode cc pc = .ok (.putfield 21, 3)) (hn : narrow (tTask 3) v = v) (hfit : fits (tTask 3) v = true) (ha : fxk w a = some (3, n)) (k : fxR G nL x Q (fx_put w 195 a v) (pc + 3) ls st) : fxR G nL x Q w pc ls (v :: .ref a :: st) := r_putF (Cn := RTask) (T := FTask) (N := 9) (ci := 3) (k0 := 3) C hd rfl (by decide) inTask tTask tyTask nmTask (by decide) lk_Task_21 (Or.inl rfl) rfl rfl (tyTask 3 (by decide)) hn hfit ha k
theorem p_Task_24 {G : fxG} {d nL : Nat} {cc : ByteArray} {nm : String} {ret : Option FieldType} {hh : List (Nat × Nat × Nat × Nat)} {x : fxX} {Q : State → Prop} {w : fxW} {pc : Nat} {ls : List (Nat × Value)} {st : List Value} (C : fxC G d cc nL "ForkPool$Task" nm ret hh x) {a n : Nat} {v : Value} (hd : decode cc pc = .ok (.putfield 24, 3)) (hn : narrow (tTask 4) v = v) (hfit : fits (tTask 4) v = true) (ha : fxk w a = some (3, n)) (k : fxR G nL x Q (fx_put w 196 a v) (pc + 3) ls st) : fxR G nL x Q w pc ls (v :: .ref a :: st) := r_put (Cn := RTask) (T := FTask) (N := 9) (ci := 3) (k0 := 4) C hd rfl (by decide) inTask tTask tyTask nmTask (by decide) lk_Task_24 (Or.inl rfl) rfl (tyTask 4 (by decide)) hn hfit ha k
theorem p_Task_27 {G : fxG} {d nL : Nat} {cc : ByteArray} {nm : String} {ret : Option FieldType} {hh : List (Nat × Nat × Nat × Nat)} {x : fxX} {Q : State → Prop} {w : fxW} {pc : Nat} {ls : List (Nat × Value)} {st : List Value} (C : fxC G d cc nL "ForkPool$Task" nm ret hh x) {a n : Nat} {v : Value} (hd : decode cc pc = .ok (.putfield 27, 3)) (hn : narrow (tTask 5) v = v) (hfit : fits (tTask 5) v = true) (ha : fxk w a = some (3, n)) (k : fxR G nL x Q (fx_put w 197 a v) (pc + 3) ls st) : fxR G nL x Q w pc ls (v :: .ref a :: st) := r_put (Cn := RTask) (T := FTask) (N := 9) (ci := 3) (k0 := 5) C hd rfl (by decide) inTask tTask tyTask nmTask (by decide) lk_Task_27 (Or.inl rfl) rfl (tyTask 5 (by decide)) hn hfit ha k
theorem p_Task_34 {G : fxG} {d nL : Nat} {cc : ByteArray} {nm : String} {ret : Option FieldType} {hh : List (Nat × Nat × Nat × Nat)} {x : fxX} {Q : State → Prop} {w : fxW} {pc : Nat} {ls : List (Nat × Value)} {st : List Value} (C : fxC G d cc nL "ForkPool$Task" nm ret hh x) {a n : Nat} {v : Value} (hd : decode cc pc = .ok (.putfield 34, 3)) (hn : narrow (tTask 8) v = v) (hfit : fits (tTask 8) v = true) (ha : fxk w a = some (3, n)) (k : fxR G nL x Q (fx_put w 200 a v) (pc + 3) ls st) : fxR G nL x Q w pc ls (v :: .ref a :: st) := r_put (Cn := RTask) (T := FTask) (N := 9) (ci := 3) (k0 := 8) C hd rfl (by decide) inTask tTask tyTask nmTask (by decide) lk_Task_34 (Or.inl rfl) rfl (tyTask 8 (by decide)) hn hfit ha k
theorem lk_Task_56 : Cond.fieldLink "ForkPool$Task" 56 "ForkPool$Task" "openParts" "I" ∈ fxTW := fxTW_in 407 (by decide +kernel) rfl
theorem p_Task_56 {G : fxG} {d nL : Nat} {cc : ByteArray} {nm : String} {ret : Option FieldType} {hh : List (Nat × Nat × Nat × Nat)} {x : fxX} {Q : State → Prop} {w : fxW} {pc : Nat} {ls : List (Nat × Value)} {st : List Value} (C : fxC G d cc nL "ForkPool$Task" nm ret hh x) {a n : Nat} {v : Value} (hd : decode cc pc = .ok (.putfield 56, 3)) (hn : narrow (tTask 6) v = v) (hfit : fits (tTask 6) v = true) (ha : fxk w a = some (3, n)) (k : fxR G nL x Q (fx_put w 198 a v) (pc + 3) ls st) : fxR G nL x Q w pc ls (v :: .ref a :: st) := r_put (Cn := RTask) (T := FTask) (N := 9) (ci := 3) (k0 := 6) C hd rfl (by decide) inTask tTask tyTask nmTask (by decide) lk_Task_56 (Or.inl rfl) rfl (tyTask 6 (by decide)) hn hfit ha k
theorem lk_Wk_10 : Cond.fieldLink "ForkPool$Worker" 10 "ForkPool$Worker" "queue" "Ljava/util/ArrayList;" ∈ fxTW := fxTW_in 129 (by decide +kernel) rfl
theorem g_Wk_10 {G : fxG} {d nL : Nat} {cc : ByteArray} {nm : String} {ret : Option FieldType} {hh : List (Nat × Nat × Nat × Nat)} {x : fxX} {Q : State → Prop} {w : fxW} {pc : Nat} {ls : List (Nat × Value)} {st : List Value} (C : fxC G d cc nL "ForkPool$Worker" nm ret hh x) {a n : Nat} {v : Value} (hd : decode cc pc = .ok (.getfield 10, 3)) (ha : fxk w a = some (4, n)) (hv : fxf w 256 a = v) (k : fxR G nL x Q w (pc + 3) ls (v :: st)) : fxR G nL x Q w pc ls (.ref a :: st) := r_get (Cn := RWk) (T := FWk) (N := 5) (ci := 4) (k0 := 0) C hd rfl (by decide) inWk (by decide) lk_Wk_10 (Or.inl rfl) ha hv k
theorem lk_Wk_37 : Cond.fieldLinkNest "ForkPool$Worker" 37 "ForkPool$Task" "job" "LForkPool$Job;" "ForkPool" ∈ fxTW := fxTW_in 391 (by decide +kernel) rfl
theorem g_Wk_37 {G : fxG} {d nL : Nat} {cc : ByteArray} {nm : String} {ret : Option FieldType} {hh : List (Nat × Nat × Nat × Nat)} {x : fxX} {Q : State → Prop} {w : fxW} {pc : Nat} {ls : List (Nat × Value)} {st : List Value} (C : fxC G d cc nL "ForkPool$Worker" nm ret hh x) {a n : Nat} {v : Value} (hd : decode cc pc = .ok (.getfield 37, 3)) (ha : fxk w a = some (3, n)) (hv : fxf w 192 a = v) (k : fxR G nL x Q w (pc + 3) ls (v :: st)) : fxR G nL x Q w pc ls (.ref a :: st) := r_getN (Cn := RTask) (T := FTask) (N := 9) (ci := 3) (k0 := 0) C hd rfl (by decide) inTask (by decide) lk_Wk_37 (Or.inl rfl) ha hv k
theorem o_Wk_1 {G : fxG} {d nL : Nat} {cc : ByteArray} {nm : String} {ret : Option FieldType} {hh : List (Nat × Nat × Nat × Nat)} {x : fxX} {Q : State → Prop} {w : fxW} {pc : Nat} {ls : List (Nat × Value)} {st : List Value} (C : fxC G d cc nL "ForkPool$Worker" nm ret hh x) {b : Nat} (hd : decode cc pc = .ok (.invokespecial 1, 3)) (h1 : 1 ≤ d) (hst : (st.map fun v => v.category).sum ≤ 8) (k : fxR G nL x Q w (pc + 3) ls st) : fxR G nL x Q w pc ls (.ref b :: st) := r_objInit C hd (fxTW_in 102 (by decide +kernel) rfl) (fxTW_in 68 (by decide +kernel) rfl) (fxTW_in 69 (by decide +kernel) rfl) h1 hst k
theorem lm_Wk_9 : Cond.methodLink "ForkPool$Worker" 9 y_AL_init ∈ fxTW := fxTW_in 105 (by decide +kernel) rfl
theorem c_Wk_9 {G : fxG} {d nL : Nat} {cc : ByteArray} {nm : String} {ret : Option FieldType} {hh : List (Nat × Nat × Nat × Nat)} {x : fxX} {Q : State → Prop} {w : fxW} {pc : Nat} {ls : List (Nat × Value)} {st : List Value} (C : fxC G d cc nL "ForkPool$Worker" nm ret hh x) {b d' : Nat} {P : Outcome → fxW → Prop} (hd : decode cc pc = .ok (.invokespecial 9, 3)) (hM : fxM G d' y_AL_init (.ref b :: []) w P) (hdd : d' < d) (hst : (st.map fun v => v.category).sum ≤ 8) (k1 : ∀ v w', P (.returned v) w' → fxR G nL x Q w' (pc + 3) ls (v.toList ++ st)) (k2 : ∀ a w', P (.threw a) w' → fxRt G nL x Q w' pc ls st a) : fxR G nL x Q w pc ls (.ref b :: st) := r_callI (As := []) C hd lm_Wk_9 rfl (fxTW_in 106 (by decide +kernel) rfl) w_AL_init ini_java_util_ArrayList (by decide) np_AL_init (by decide) hM hdd hst rfl k1 k2
theorem lm_Wk_20 : Cond.methodLink "ForkPool$Worker" 20 y_AL_size ∈ fxTW := fxTW_in 508 (by decide +kernel) rfl
theorem c_Wk_20 {G : fxG} {d nL : Nat} {cc : ByteArray} {nm : String} {ret : Option FieldType} {hh : List (Nat × Nat × Nat × Nat)} {x : fxX} {Q : State → Prop} {w : fxW} {pc : Nat} {ls : List (Nat × Value)} {st : List Value} (C : fxC G d cc nL "ForkPool$Worker" nm ret hh x) {b n0 d' : Nat} {P : Outcome → fxW → Prop} (hd : decode cc pc = .ok (.invokevirtual 20, 3)) (hb9 : fxk w b = some (5, n0)) (hM : fxM G d' y_AL_size (.ref b :: []) w P) (hdd : d' < d) (hst : (st.map fun v => v.category).sum ≤ 8) (k1 : ∀ v w', P (.returned v) w' → fxR G nL x Q w' (pc + 3) ls (v.toList ++ st)) (k2 : ∀ a w', P (.threw a) w' → fxRt G nL x Q w' pc ls st a) : fxR G nL x Q w pc ls (.ref b :: st) := r_callV (As := []) (Cn := "java/util/ArrayList") (ci := 5) C hd lm_Wk_20 (fxTW_in 509 (by decide +kernel) rfl) (fxTW_in 510 (by decide +kernel) rfl) w_AL_size ini_java_util_ArrayList (by decide) np_AL_size (by decide) (by decide) rfl hb9 hM hdd hst rfl k1 k2
theorem lm_Wk_24 : Cond.methodLink "ForkPool$Worker" 24 y_AL_add1 ∈ fxTW := fxTW_in 437 (by decide +kernel) rfl
theorem c_Wk_24 {G : fxG} {d nL : Nat} {cc : ByteArray} {nm : String} {ret : Option FieldType} {hh : List (Nat × Nat × Nat × Nat)} {x : fxX} {Q : State → Prop} {w : fxW} {pc : Nat} {ls : List (Nat × Value)} {st : List Value} (C : fxC G d cc nL "ForkPool$Worker" nm ret hh x) {b n0 d' : Nat} {a0 : Value} {P : Outcome → fxW → Prop} (hd : decode cc pc = .ok (.invokevirtual 24, 3)) (hb9 : fxk w b = some (5, n0)) (hM : fxM G d' y_AL_add1 (.ref b :: [a0]) w P) (hdd : d' < d) (hst : (st.map fun v => v.category).sum ≤ 8) (k1 : ∀ v w', P (.returned v) w' → fxR G nL x Q w' (pc + 3) ls (v.toList ++ st)) (k2 : ∀ a w', P (.threw a) w' → fxRt G nL x Q w' pc ls st a) : fxR G nL x Q w pc ls (a0 :: .ref b :: st) := r_callV (As := [a0]) (Cn := "java/util/ArrayList") (ci := 5) C hd lm_Wk_24 (fxTW_in 438 (by decide +kernel) rfl) (fxTW_in 439 (by decide +kernel) rfl) w_AL_add1 ini_java_util_ArrayList (by decide) np_AL_add1 (by decide) (by decide) rfl hb9 hM hdd hst rfl k1 k2
theorem lm_Wk_28 : Cond.methodLink "ForkPool$Worker" 28 y_AL_remove ∈ fxTW := fxTW_in 516 (by decide +kernel) rfl
theorem c_Wk_28 {G : fxG} {d nL : Nat} {cc : ByteArray} {nm : String} {ret : Option FieldType} {hh : List (Nat × Nat × Nat × Nat)} {x : fxX} {Q : State → Prop} {w : fxW} {pc : Nat} {ls : List (Nat × Value)} {st : List Value} (C : fxC G d cc nL "ForkPool$Worker" nm ret hh x) {b n0 d' : Nat} {a0 : Value} {P : Outcome → fxW → Prop} (hd : decode cc pc = .ok (.invokevirtual 28, 3)) (hb9 : fxk w b = some (5, n0)) (hM : fxM G d' y_AL_remove (.ref b :: [a0]) w P) (hdd : d' < d) (hst : (st.map fun v => v.category).sum ≤ 8) (k1 : ∀ v w', P (.returned v) w' → fxR G nL x Q w' (pc + 3) ls (v.toList ++ st)) (k2 : ∀ a w', P (.threw a) w' → fxRt G nL x Q w' pc ls st a) : fxR G nL x Q w pc ls (a0 :: .ref b :: st) := r_callV (As := [a0]) (Cn := "java/util/ArrayList") (ci := 5) C hd lm_Wk_28 (fxTW_in 517 (by decide +kernel) rfl) (fxTW_in 518 (by decide +kernel) rfl) w_AL_remove ini_java_util_ArrayList (by decide) np_AL_remove (by decide) (by decide) rfl hb9 hM hdd hst rfl k1 k2
theorem lm_Wk_34 : Cond.methodLink "ForkPool$Worker" 34 y_AL_get ∈ fxTW := fxTW_in 612 (by decide +kernel) rfl
theorem c_Wk_34 {G : fxG} {d nL : Nat} {cc : ByteArray} {nm : String} {ret : Option FieldType} {hh : List (Nat × Nat × Nat × Nat)} {x : fxX} {Q : State → Prop} {w : fxW} {pc : Nat} {ls : List (Nat × Value)} {st : List Value} (C : fxC G d cc nL "ForkPool$Worker" nm ret hh x) {b n0 d' : Nat} {a0 : Value} {P : Outcome → fxW → Prop} (hd : decode cc pc = .ok (.invokevirtual 34, 3)) (hb9 : fxk w b = some (5, n0)) (hM : fxM G d' y_AL_get (.ref b :: [a0]) w P) (hdd : d' < d) (hst : (st.map fun v => v.category).sum ≤ 8) (k1 : ∀ v w', P (.returned v) w' → fxR G nL x Q w' (pc + 3) ls (v.toList ++ st)) (k2 : ∀ a w', P (.threw a) w' → fxRt G nL x Q w' pc ls st a) : fxR G nL x Q w pc ls (a0 :: .ref b :: st) := r_callV (As := [a0]) (Cn := "java/util/ArrayList") (ci := 5) C hd lm_Wk_34 (fxTW_in 613 (by decide +kernel) rfl) (fxTW_in 614 (by decide +kernel) rfl) w_AL_get ini_java_util_ArrayList (by decide) np_AL_get (by decide) (by decide) rfl hb9 hM hdd hst rfl k1 k2
theorem lc_Wk_7 : Cond.classLink "ForkPool$Worker" 7 "java/util/ArrayList" ∈ fxTW := fxTW_in 103 (by decide +kernel) rfl
theorem n_Wk_7 {G : fxG} {d nL : Nat} {cc : ByteArray} {nm : String} {ret : Option FieldType} {hh : List (Nat × Nat × Nat × Nat)} {x : fxX} {Q : State → Prop} {w : fxW} {pc : Nat} {ls : List (Nat × Value)} {st : List Value} (C : fxC G d cc nL "ForkPool$Worker" nm ret hh x) (hd : decode cc pc = .ok (.new 7, 3)) (h9 : fxt w + 1 ≤ fxmt G) (h8 : fxu w + 3 ≤ fxmu G) (k : fxR G nL x Q (fx_new w 5 3 (fun k => defaultValue (tAL k))) (pc + 3) ls (.ref (fxt w) :: st)) : fxR G nL x Q w pc ls st := r_new (Cn := RAL) (T := FAL) (N := 3) (ci := 5) C hd rfl (by decide) inAL tAL tyAL lc_Wk_7 (fxTW_in 104 (by decide +kernel) rfl) ini_java_util_ArrayList (fun _ _ => rfl) h9 h8 k
theorem p_Wk_10F {G : fxG} {d nL : Nat} {cc : ByteArray} {nm : String} {ret : Option FieldType} {hh : List (Nat × Nat × Nat × Nat)} {x : fxX} {Q : State → Prop} {w : fxW} {pc : Nat} {ls : List (Nat × Value)} {st : List Value} (C : fxC G d cc nL "ForkPool$Worker" "<init>" ret hh x) {a n : Nat} {v : Value} (hd : decode cc pc = .ok (.putfield 10, 3)) (hn : narrow (tWk 0) v = v) (hfit : fits (tWk 0) v = true) (ha : fxk w a = some (4, n)) (k : fxR G nL x Q (fx_put w 256 a v) (pc + 3) ls st) : fxR G nL x Q w pc ls (v :: .ref a :: st) := r_putF (Cn := RWk) (T := FWk) (N := 5) (ci := 4) (k0 := 0) C hd rfl (by decide) inWk tWk tyWk nmWk (by decide) lk_Wk_10 (Or.inl rfl) rfl rfl (tyWk 0 (by decide)) hn hfit ha k
theorem lk_Wk_16 : Cond.fieldLink "ForkPool$Worker" 16 "ForkPool$Worker" "victim" "I" ∈ fxTW := fxTW_in 133 (by decide +kernel) rfl
theorem p_Wk_16 {G : fxG} {d nL : Nat} {cc : ByteArray} {nm : String} {ret : Option FieldType} {hh : List (Nat × Nat × Nat × Nat)} {x : fxX} {Q : State → Prop} {w : fxW} {pc : Nat} {ls : List (Nat × Value)} {st : List Value} (C : fxC G d cc nL "ForkPool$Worker" nm ret hh x) {a n : Nat} {v : Value} (hd : decode cc pc = .ok (.putfield 16, 3)) (hn : narrow (tWk 4) v = v) (hfit : fits (tWk 4) v = true) (ha : fxk w a = some (4, n)) (k : fxR G nL x Q (fx_put w 260 a v) (pc + 3) ls st) : fxR G nL x Q w pc ls (v :: .ref a :: st) := r_put (Cn := RWk) (T := FWk) (N := 5) (ci := 4) (k0 := 4) C hd rfl (by decide) inWk tWk tyWk nmWk (by decide) lk_Wk_16 (Or.inl rfl) rfl (tyWk 4 (by decide)) hn hfit ha k
end
section
theorem d_FP_array_0 : decode cc_FP_array 0 = .ok (.iload_n 1, 1) := by decide +kernel
theorem d_FP_array_1 : decode cc_FP_array 1 = .ok (.iconst 0, 1) := by decide +kernel
theorem d_FP_array_2 : decode cc_FP_array 2 = .ok (.iconst 3, 1) := by decide +kernel
theorem d_FP_array_3 : decode cc_FP_array 3 = .ok (.invokestatic 44, 3) := by decide +kernel
theorem d_FP_array_6 : decode cc_FP_array 6 = .ok (.ifCond .eq 22, 3) := by decide +kernel
theorem d_FP_array_9 : decode cc_FP_array 9 = .ok (.iload_n 2, 1) := by decide +kernel
theorem d_FP_array_10 : decode cc_FP_array 10 = .ok (.iconst 0, 1) := by decide +kernel
theorem d_FP_array_11 : decode cc_FP_array 11 = .ok (.iconst 5, 1) := by decide +kernel
theorem d_FP_array_12 : decode cc_FP_array 12 = .ok (.invokestatic 44, 3) := by decide +kernel
theorem d_FP_array_15 : decode cc_FP_array 15 = .ok (.ifCond .eq 13, 3) := by decide +kernel
theorem d_FP_array_18 : decode cc_FP_array 18 = .ok (.iload_n 3, 1) := by decide +kernel
theorem d_FP_array_19 : decode cc_FP_array 19 = .ok (.iconst 1, 1) := by decide +kernel
theorem d_FP_array_20 : decode cc_FP_array 20 = .ok (.bipush 24, 2) := by decide +kernel
theorem d_FP_array_22 : decode cc_FP_array 22 = .ok (.invokestatic 44, 3) := by decide +kernel
theorem d_FP_array_25 : decode cc_FP_array 25 = .ok (.ifCond .ne 13, 3) := by decide +kernel
theorem d_FP_array_28 : decode cc_FP_array 28 = .ok (.new 48, 3) := by decide +kernel
theorem d_FP_array_31 : decode cc_FP_array 31 = .ok (.dup, 1) := by decide +kernel
theorem d_FP_array_32 : decode cc_FP_array 32 = .ok (.ldc 50, 2) := by decide +kernel
theorem d_FP_array_34 : decode cc_FP_array 34 = .ok (.invokespecial 52, 3) := by decide +kernel
theorem d_FP_array_37 : decode cc_FP_array 37 = .ok (.athrow, 1) := by decide +kernel
theorem d_FP_array_38 : decode cc_FP_array 38 = .ok (.aload_n 0, 1) := by decide +kernel
theorem d_FP_array_39 : decode cc_FP_array 39 = .ok (.aload_n 0, 1) := by decide +kernel
theorem d_FP_array_40 : decode cc_FP_array 40 = .ok (.getfield 11, 3) := by decide +kernel
theorem d_FP_array_43 : decode cc_FP_array 43 = .ok (.iload_n 1, 1) := by decide +kernel
theorem d_FP_array_44 : decode cc_FP_array 44 = .ok (.aaload, 1) := by decide +kernel
theorem d_FP_array_45 : decode cc_FP_array 45 = .ok (.invokevirtual 55, 3) := by decide +kernel
theorem d_FP_array_48 : decode cc_FP_array 48 = .ok (.aload_n 0, 1) := by decide +kernel
theorem d_FP_array_49 : decode cc_FP_array 49 = .ok (.getfield 11, 3) := by decide +kernel
theorem d_FP_array_52 : decode cc_FP_array 52 = .ok (.iload_n 1, 1) := by decide +kernel
theorem d_FP_array_53 : decode cc_FP_array 53 = .ok (.aaload, 1) := by decide +kernel
theorem d_FP_array_54 : decode cc_FP_array 54 = .ok (.iload_n 2, 1) := by decide +kernel
theorem d_FP_array_55 : decode cc_FP_array 55 = .ok (.iload_n 3, 1) := by decide +kernel
theorem d_FP_array_56 : decode cc_FP_array 56 = .ok (.invokevirtual 59, 3) := by decide +kernel
theorem d_FP_array_59 : decode cc_FP_array 59 = .ok (.iload_n 3, 1) := by decide +kernel
theorem d_FP_array_60 : decode cc_FP_array 60 = .ok (.ireturn, 1) := by decide +kernel
theorem d_FP_begin_0 : decode cc_FP_begin 0 = .ok (.aload_n 0, 1) := by decide +kernel
theorem d_FP_begin_1 : decode cc_FP_begin 1 = .ok (.iload_n 2, 1) := by decide +kernel
theorem d_FP_begin_2 : decode cc_FP_begin 2 = .ok (.invokevirtual 75, 3) := by decide +kernel
theorem d_FP_begin_5 : decode cc_FP_begin 5 = .ok (.astore 6, 2) := by decide +kernel
theorem d_FP_begin_7 : decode cc_FP_begin 7 = .ok (.iload_n 1, 1) := by decide +kernel
theorem d_FP_begin_8 : decode cc_FP_begin 8 = .ok (.iconst 0, 1) := by decide +kernel
theorem d_FP_begin_9 : decode cc_FP_begin 9 = .ok (.iconst 5, 1) := by decide +kernel
theorem d_FP_begin_10 : decode cc_FP_begin 10 = .ok (.invokestatic 44, 3) := by decide +kernel
theorem d_FP_begin_13 : decode cc_FP_begin 13 = .ok (.ifCond .eq 18, 3) := by decide +kernel
theorem d_FP_begin_16 : decode cc_FP_begin 16 = .ok (.iload_n 3, 1) := by decide +kernel
theorem d_FP_begin_17 : decode cc_FP_begin 17 = .ok (.iconst 0, 1) := by decide +kernel
theorem d_FP_begin_18 : decode cc_FP_begin 18 = .ok (.aload_n 0, 1) := by decide +kernel
theorem d_FP_begin_19 : decode cc_FP_begin 19 = .ok (.getfield 27, 3) := by decide +kernel
theorem d_FP_begin_22 : decode cc_FP_begin 22 = .ok (.arraylength, 1) := by decide +kernel
theorem d_FP_begin_23 : decode cc_FP_begin 23 = .ok (.iconst 1, 1) := by decide +kernel
theorem d_FP_begin_24 : decode cc_FP_begin 24 = .ok (.isub, 1) := by decide +kernel
theorem d_FP_begin_25 : decode cc_FP_begin 25 = .ok (.invokestatic 44, 3) := by decide +kernel
theorem d_FP_begin_28 : decode cc_FP_begin 28 = .ok (.ifCond .ne 13, 3) := by decide +kernel
theorem d_FP_begin_31 : decode cc_FP_begin 31 = .ok (.new 48, 3) := by decide +kernel
theorem d_FP_begin_34 : decode cc_FP_begin 34 = .ok (.dup, 1) := by decide +kernel
theorem d_FP_begin_35 : decode cc_FP_begin 35 = .ok (.ldc 79, 2) := by decide +kernel
theorem d_FP_begin_37 : decode cc_FP_begin 37 = .ok (.invokespecial 52, 3) := by decide +kernel
theorem d_FP_begin_40 : decode cc_FP_begin 40 = .ok (.athrow, 1) := by decide +kernel
theorem d_FP_begin_41 : decode cc_FP_begin 41 = .ok (.iload 4, 2) := by decide +kernel
theorem d_FP_begin_43 : decode cc_FP_begin 43 = .ok (.sipush (-1000), 3) := by decide +kernel
theorem d_FP_begin_46 : decode cc_FP_begin 46 = .ok (.sipush 1000, 3) := by decide +kernel
theorem d_FP_begin_49 : decode cc_FP_begin 49 = .ok (.invokestatic 44, 3) := by decide +kernel
theorem d_FP_begin_52 : decode cc_FP_begin 52 = .ok (.ifCond .eq 17, 3) := by decide +kernel
theorem d_FP_begin_55 : decode cc_FP_begin 55 = .ok (.iload 5, 2) := by decide +kernel
theorem d_FP_begin_57 : decode cc_FP_begin 57 = .ok (.sipush (-1000), 3) := by decide +kernel
theorem d_FP_begin_60 : decode cc_FP_begin 60 = .ok (.sipush 1000, 3) := by decide +kernel
theorem d_FP_begin_63 : decode cc_FP_begin 63 = .ok (.invokestatic 44, 3) := by decide +kernel
theorem d_FP_begin_66 : decode cc_FP_begin 66 = .ok (.ifCond .ne 13, 3) := by decide +kernel
theorem d_FP_begin_69 : decode cc_FP_begin 69 = .ok (.new 48, 3) := by decide +kernel
theorem d_FP_begin_72 : decode cc_FP_begin 72 = .ok (.dup, 1) := by decide +kernel
theorem d_FP_begin_73 : decode cc_FP_begin 73 = .ok (.ldc 81, 2) := by decide +kernel
theorem d_FP_begin_75 : decode cc_FP_begin 75 = .ok (.invokespecial 52, 3) := by decide +kernel
theorem d_FP_begin_78 : decode cc_FP_begin 78 = .ok (.athrow, 1) := by decide +kernel
theorem d_FP_begin_79 : decode cc_FP_begin 79 = .ok (.aload_n 0, 1) := by decide +kernel
theorem d_FP_begin_80 : decode cc_FP_begin 80 = .ok (.aload 6, 2) := by decide +kernel
theorem d_FP_begin_82 : decode cc_FP_begin 82 = .ok (.invokevirtual 55, 3) := by decide +kernel
theorem d_FP_begin_85 : decode cc_FP_begin 85 = .ok (.aload_n 0, 1) := by decide +kernel
theorem d_FP_begin_86 : decode cc_FP_begin 86 = .ok (.getfield 83, 3) := by decide +kernel
theorem d_FP_begin_89 : decode cc_FP_begin 89 = .ok (.bipush 12, 2) := by decide +kernel
theorem d_FP_begin_91 : decode cc_FP_begin 91 = .ok (.if_icmp .lt 13, 3) := by decide +kernel
theorem d_FP_begin_94 : decode cc_FP_begin 94 = .ok (.new 86, 3) := by decide +kernel
theorem d_FP_begin_97 : decode cc_FP_begin 97 = .ok (.dup, 1) := by decide +kernel
theorem d_FP_begin_98 : decode cc_FP_begin 98 = .ok (.ldc 88, 2) := by decide +kernel
theorem d_FP_begin_100 : decode cc_FP_begin 100 = .ok (.invokespecial 90, 3) := by decide +kernel
theorem d_FP_begin_103 : decode cc_FP_begin 103 = .ok (.athrow, 1) := by decide +kernel
theorem d_FP_begin_104 : decode cc_FP_begin 104 = .ok (.new 34, 3) := by decide +kernel
theorem d_FP_begin_107 : decode cc_FP_begin 107 = .ok (.dup, 1) := by decide +kernel
theorem d_FP_begin_108 : decode cc_FP_begin 108 = .ok (.aload_n 0, 1) := by decide +kernel
theorem d_FP_begin_109 : decode cc_FP_begin 109 = .ok (.getfield 83, 3) := by decide +kernel
theorem d_FP_begin_112 : decode cc_FP_begin 112 = .ok (.iload_n 1, 1) := by decide +kernel
theorem d_FP_begin_113 : decode cc_FP_begin 113 = .ok (.aload 6, 2) := by decide +kernel
theorem d_FP_begin_115 : decode cc_FP_begin 115 = .ok (.iload 4, 2) := by decide +kernel
theorem d_FP_begin_117 : decode cc_FP_begin 117 = .ok (.iload 5, 2) := by decide +kernel
theorem d_FP_begin_119 : decode cc_FP_begin 119 = .ok (.invokespecial 91, 3) := by decide +kernel
theorem d_FP_begin_122 : decode cc_FP_begin 122 = .ok (.astore 7, 2) := by decide +kernel
theorem d_FP_begin_124 : decode cc_FP_begin 124 = .ok (.aload_n 0, 1) := by decide +kernel
theorem d_FP_begin_125 : decode cc_FP_begin 125 = .ok (.getfield 36, 3) := by decide +kernel
theorem d_FP_begin_128 : decode cc_FP_begin 128 = .ok (.aload_n 0, 1) := by decide +kernel
theorem d_FP_begin_129 : decode cc_FP_begin 129 = .ok (.getfield 83, 3) := by decide +kernel
theorem d_FP_begin_132 : decode cc_FP_begin 132 = .ok (.aload 7, 2) := by decide +kernel
theorem d_FP_begin_134 : decode cc_FP_begin 134 = .ok (.aastore, 1) := by decide +kernel
theorem d_FP_begin_135 : decode cc_FP_begin 135 = .ok (.aload_n 0, 1) := by decide +kernel
theorem d_FP_begin_136 : decode cc_FP_begin 136 = .ok (.dup, 1) := by decide +kernel
theorem d_FP_begin_137 : decode cc_FP_begin 137 = .ok (.getfield 83, 3) := by decide +kernel
theorem d_FP_begin_140 : decode cc_FP_begin 140 = .ok (.iconst 1, 1) := by decide +kernel
theorem d_FP_begin_141 : decode cc_FP_begin 141 = .ok (.iadd, 1) := by decide +kernel
theorem d_FP_begin_142 : decode cc_FP_begin 142 = .ok (.putfield 83, 3) := by decide +kernel
theorem d_FP_begin_145 : decode cc_FP_begin 145 = .ok (.aload_n 0, 1) := by decide +kernel
theorem d_FP_begin_146 : decode cc_FP_begin 146 = .ok (.getfield 27, 3) := by decide +kernel
theorem d_FP_begin_149 : decode cc_FP_begin 149 = .ok (.iload_n 3, 1) := by decide +kernel
theorem d_FP_begin_150 : decode cc_FP_begin 150 = .ok (.aaload, 1) := by decide +kernel
theorem d_FP_begin_151 : decode cc_FP_begin 151 = .ok (.new 94, 3) := by decide +kernel
theorem d_FP_begin_154 : decode cc_FP_begin 154 = .ok (.dup, 1) := by decide +kernel
theorem d_FP_begin_155 : decode cc_FP_begin 155 = .ok (.aload 7, 2) := by decide +kernel
theorem d_FP_begin_157 : decode cc_FP_begin 157 = .ok (.aconst_null, 1) := by decide +kernel
theorem d_FP_begin_158 : decode cc_FP_begin 158 = .ok (.iconst 0, 1) := by decide +kernel
theorem d_FP_begin_159 : decode cc_FP_begin 159 = .ok (.aload 6, 2) := by decide +kernel
theorem d_FP_begin_161 : decode cc_FP_begin 161 = .ok (.getfield 96, 3) := by decide +kernel
theorem d_FP_begin_164 : decode cc_FP_begin 164 = .ok (.invokespecial 99, 3) := by decide +kernel
theorem d_FP_begin_167 : decode cc_FP_begin 167 = .ok (.invokevirtual 102, 3) := by decide +kernel
theorem d_FP_begin_170 : decode cc_FP_begin 170 = .ok (.aload 7, 2) := by decide +kernel
theorem d_FP_begin_172 : decode cc_FP_begin 172 = .ok (.getfield 106, 3) := by decide +kernel
theorem d_FP_begin_175 : decode cc_FP_begin 175 = .ok (.ireturn, 1) := by decide +kernel
theorem d_FP_begunJob_0 : decode cc_FP_begunJob 0 = .ok (.iload_n 1, 1) := by decide +kernel
theorem d_FP_begunJob_1 : decode cc_FP_begunJob 1 = .ok (.iconst 0, 1) := by decide +kernel
theorem d_FP_begunJob_2 : decode cc_FP_begunJob 2 = .ok (.aload_n 0, 1) := by decide +kernel
theorem d_FP_begunJob_3 : decode cc_FP_begunJob 3 = .ok (.getfield 83, 3) := by decide +kernel
theorem d_FP_begunJob_6 : decode cc_FP_begunJob 6 = .ok (.iconst 1, 1) := by decide +kernel
theorem d_FP_begunJob_7 : decode cc_FP_begunJob 7 = .ok (.isub, 1) := by decide +kernel
theorem d_FP_begunJob_8 : decode cc_FP_begunJob 8 = .ok (.invokestatic 44, 3) := by decide +kernel
theorem d_FP_begunJob_11 : decode cc_FP_begunJob 11 = .ok (.ifCond .ne 13, 3) := by decide +kernel
theorem d_FP_begunJob_14 : decode cc_FP_begunJob 14 = .ok (.new 168, 3) := by decide +kernel
theorem d_FP_begunJob_17 : decode cc_FP_begunJob 17 = .ok (.dup, 1) := by decide +kernel
theorem d_FP_begunJob_18 : decode cc_FP_begunJob 18 = .ok (.ldc 221, 2) := by decide +kernel
theorem d_FP_begunJob_20 : decode cc_FP_begunJob 20 = .ok (.invokespecial 172, 3) := by decide +kernel
theorem d_FP_begunJob_23 : decode cc_FP_begunJob 23 = .ok (.athrow, 1) := by decide +kernel
theorem d_FP_begunJob_24 : decode cc_FP_begunJob 24 = .ok (.aload_n 0, 1) := by decide +kernel
theorem d_FP_begunJob_25 : decode cc_FP_begunJob 25 = .ok (.getfield 36, 3) := by decide +kernel
theorem d_FP_begunJob_28 : decode cc_FP_begunJob 28 = .ok (.iload_n 1, 1) := by decide +kernel
theorem d_FP_begunJob_29 : decode cc_FP_begunJob 29 = .ok (.aaload, 1) := by decide +kernel
theorem d_FP_begunJob_30 : decode cc_FP_begunJob 30 = .ok (.areturn, 1) := by decide +kernel
theorem d_FP_cancel_0 : decode cc_FP_cancel 0 = .ok (.aload_n 0, 1) := by decide +kernel
theorem d_FP_cancel_1 : decode cc_FP_cancel 1 = .ok (.iload_n 1, 1) := by decide +kernel
theorem d_FP_cancel_2 : decode cc_FP_cancel 2 = .ok (.invokevirtual 115, 3) := by decide +kernel
theorem d_FP_cancel_5 : decode cc_FP_cancel 5 = .ok (.astore_n 2, 1) := by decide +kernel
theorem d_FP_cancel_6 : decode cc_FP_cancel 6 = .ok (.aload_n 2, 1) := by decide +kernel
theorem d_FP_cancel_7 : decode cc_FP_cancel 7 = .ok (.getfield 119, 3) := by decide +kernel
theorem d_FP_cancel_10 : decode cc_FP_cancel 10 = .ok (.ifCond .eq 13, 3) := by decide +kernel
theorem d_FP_cancel_13 : decode cc_FP_cancel 13 = .ok (.new 86, 3) := by decide +kernel
theorem d_FP_cancel_16 : decode cc_FP_cancel 16 = .ok (.dup, 1) := by decide +kernel
theorem d_FP_cancel_17 : decode cc_FP_cancel 17 = .ok (.ldc 142, 2) := by decide +kernel
theorem d_FP_cancel_19 : decode cc_FP_cancel 19 = .ok (.invokespecial 90, 3) := by decide +kernel
theorem d_FP_cancel_22 : decode cc_FP_cancel 22 = .ok (.athrow, 1) := by decide +kernel
theorem d_FP_cancel_23 : decode cc_FP_cancel 23 = .ok (.aload_n 0, 1) := by decide +kernel
theorem d_FP_cancel_24 : decode cc_FP_cancel 24 = .ok (.aload_n 2, 1) := by decide +kernel
theorem d_FP_cancel_25 : decode cc_FP_cancel 25 = .ok (.invokevirtual 144, 3) := by decide +kernel
theorem d_FP_cancel_28 : decode cc_FP_cancel 28 = .ok (.istore_n 3, 1) := by decide +kernel
theorem d_FP_cancel_29 : decode cc_FP_cancel 29 = .ok (.aload_n 0, 1) := by decide +kernel
theorem d_FP_cancel_30 : decode cc_FP_cancel 30 = .ok (.aload_n 2, 1) := by decide +kernel
theorem d_FP_cancel_31 : decode cc_FP_cancel 31 = .ok (.iconst (-1), 1) := by decide +kernel
theorem d_FP_cancel_32 : decode cc_FP_cancel 32 = .ok (.invokevirtual 148, 3) := by decide +kernel
theorem d_FP_cancel_35 : decode cc_FP_cancel 35 = .ok (.iload_n 3, 1) := by decide +kernel
theorem d_FP_cancel_36 : decode cc_FP_cancel 36 = .ok (.ireturn, 1) := by decide +kernel
theorem d_FP_count_0 : decode cc_FP_count 0 = .ok (.iload_n 1, 1) := by decide +kernel
theorem d_FP_count_1 : decode cc_FP_count 1 = .ok (.tableswitch 52 0 3 #[31, 36, 41, 46], 31) := by decide +kernel
theorem d_FP_count_32 : decode cc_FP_count 32 = .ok (.aload_n 0, 1) := by decide +kernel
theorem d_FP_count_33 : decode cc_FP_count 33 = .ok (.getfield 83, 3) := by decide +kernel
theorem d_FP_count_36 : decode cc_FP_count 36 = .ok (.ireturn, 1) := by decide +kernel
theorem d_FP_count_37 : decode cc_FP_count 37 = .ok (.aload_n 0, 1) := by decide +kernel
theorem d_FP_count_38 : decode cc_FP_count 38 = .ok (.getfield 203, 3) := by decide +kernel
theorem d_FP_count_41 : decode cc_FP_count 41 = .ok (.ireturn, 1) := by decide +kernel
theorem d_FP_count_42 : decode cc_FP_count 42 = .ok (.aload_n 0, 1) := by decide +kernel
theorem d_FP_count_43 : decode cc_FP_count 43 = .ok (.getfield 206, 3) := by decide +kernel
theorem d_FP_count_46 : decode cc_FP_count 46 = .ok (.ireturn, 1) := by decide +kernel
theorem d_FP_count_47 : decode cc_FP_count 47 = .ok (.aload_n 0, 1) := by decide +kernel
theorem d_FP_count_48 : decode cc_FP_count 48 = .ok (.getfield 27, 3) := by decide +kernel
theorem d_FP_count_51 : decode cc_FP_count 51 = .ok (.arraylength, 1) := by decide +kernel
theorem d_FP_count_52 : decode cc_FP_count 52 = .ok (.ireturn, 1) := by decide +kernel
theorem d_FP_count_53 : decode cc_FP_count 53 = .ok (.new 48, 3) := by decide +kernel
theorem d_FP_count_56 : decode cc_FP_count 56 = .ok (.dup, 1) := by decide +kernel
theorem d_FP_count_57 : decode cc_FP_count 57 = .ok (.ldc 209, 2) := by decide +kernel
theorem d_FP_count_59 : decode cc_FP_count 59 = .ok (.invokespecial 52, 3) := by decide +kernel
theorem d_FP_count_62 : decode cc_FP_count 62 = .ok (.athrow, 1) := by decide +kernel
theorem d_FP_endRound_0 : decode cc_FP_endRound 0 = .ok (.aload_n 1, 1) := by decide +kernel
theorem d_FP_endRound_1 : decode cc_FP_endRound 1 = .ok (.getfield 177, 3) := by decide +kernel
theorem d_FP_endRound_4 : decode cc_FP_endRound 4 = .ok (.astore_n 3, 1) := by decide +kernel
theorem d_FP_endRound_5 : decode cc_FP_endRound 5 = .ok (.aload_n 3, 1) := by decide +kernel
theorem d_FP_endRound_6 : decode cc_FP_endRound 6 = .ok (.getfield 128, 3) := by decide +kernel
theorem d_FP_endRound_9 : decode cc_FP_endRound 9 = .ok (.iconst 2, 1) := by decide +kernel
theorem d_FP_endRound_10 : decode cc_FP_endRound 10 = .ok (.if_icmp .ne 21, 3) := by decide +kernel
theorem d_FP_endRound_13 : decode cc_FP_endRound 13 = .ok (.aload_n 3, 1) := by decide +kernel
theorem d_FP_endRound_14 : decode cc_FP_endRound 14 = .ok (.getfield 261, 3) := by decide +kernel
theorem d_FP_endRound_17 : decode cc_FP_endRound 17 = .ok (.ifCond .ne 14, 3) := by decide +kernel
theorem d_FP_endRound_20 : decode cc_FP_endRound 20 = .ok (.aload_n 3, 1) := by decide +kernel
theorem d_FP_endRound_21 : decode cc_FP_endRound 21 = .ok (.iconst 1, 1) := by decide +kernel
theorem d_FP_endRound_22 : decode cc_FP_endRound 22 = .ok (.putfield 261, 3) := by decide +kernel
theorem d_FP_endRound_25 : decode cc_FP_endRound 25 = .ok (.aload_n 2, 1) := by decide +kernel
theorem d_FP_endRound_26 : decode cc_FP_endRound 26 = .ok (.aload_n 1, 1) := by decide +kernel
theorem d_FP_endRound_27 : decode cc_FP_endRound 27 = .ok (.invokevirtual 102, 3) := by decide +kernel
theorem d_FP_endRound_30 : decode cc_FP_endRound 30 = .ok (.return_, 1) := by decide +kernel
theorem d_FP_endRound_31 : decode cc_FP_endRound 31 = .ok (.aload_n 3, 1) := by decide +kernel
theorem d_FP_endRound_32 : decode cc_FP_endRound 32 = .ok (.aload_n 1, 1) := by decide +kernel
theorem d_FP_endRound_33 : decode cc_FP_endRound 33 = .ok (.getfield 280, 3) := by decide +kernel
theorem d_FP_endRound_36 : decode cc_FP_endRound 36 = .ok (.putfield 138, 3) := by decide +kernel
theorem d_FP_endRound_39 : decode cc_FP_endRound 39 = .ok (.aload_n 3, 1) := by decide +kernel
theorem d_FP_endRound_40 : decode cc_FP_endRound 40 = .ok (.iconst 1, 1) := by decide +kernel
theorem d_FP_endRound_41 : decode cc_FP_endRound 41 = .ok (.putfield 119, 3) := by decide +kernel
theorem d_FP_endRound_44 : decode cc_FP_endRound 44 = .ok (.return_, 1) := by decide +kernel
theorem d_FP_endTask_0 : decode cc_FP_endTask 0 = .ok (.aload_n 1, 1) := by decide +kernel
theorem d_FP_endTask_1 : decode cc_FP_endTask 1 = .ok (.astore_n 3, 1) := by decide +kernel
theorem d_FP_endTask_2 : decode cc_FP_endTask 2 = .ok (.aload_n 3, 1) := by decide +kernel
theorem d_FP_endTask_3 : decode cc_FP_endTask 3 = .ok (.getfield 268, 3) := by decide +kernel
theorem d_FP_endTask_6 : decode cc_FP_endTask 6 = .ok (.ifnull 37, 3) := by decide +kernel
theorem d_FP_endTask_9 : decode cc_FP_endTask 9 = .ok (.aload_n 3, 1) := by decide +kernel
theorem d_FP_endTask_10 : decode cc_FP_endTask 10 = .ok (.getfield 268, 3) := by decide +kernel
theorem d_FP_endTask_13 : decode cc_FP_endTask 13 = .ok (.astore_n 3, 1) := by decide +kernel
theorem d_FP_endTask_14 : decode cc_FP_endTask 14 = .ok (.aload_n 3, 1) := by decide +kernel
theorem d_FP_endTask_15 : decode cc_FP_endTask 15 = .ok (.dup, 1) := by decide +kernel
theorem d_FP_endTask_16 : decode cc_FP_endTask 16 = .ok (.getfield 271, 3) := by decide +kernel
theorem d_FP_endTask_19 : decode cc_FP_endTask 19 = .ok (.iconst 1, 1) := by decide +kernel
theorem d_FP_endTask_20 : decode cc_FP_endTask 20 = .ok (.isub, 1) := by decide +kernel
theorem d_FP_endTask_21 : decode cc_FP_endTask 21 = .ok (.putfield 271, 3) := by decide +kernel
theorem d_FP_endTask_24 : decode cc_FP_endTask 24 = .ok (.aload_n 3, 1) := by decide +kernel
theorem d_FP_endTask_25 : decode cc_FP_endTask 25 = .ok (.getfield 271, 3) := by decide +kernel
theorem d_FP_endTask_28 : decode cc_FP_endTask 28 = .ok (.ifCond .le 4, 3) := by decide +kernel
theorem d_FP_endTask_31 : decode cc_FP_endTask 31 = .ok (.return_, 1) := by decide +kernel
theorem d_FP_endTask_32 : decode cc_FP_endTask 32 = .ok (.aload_n 3, 1) := by decide +kernel
theorem d_FP_endTask_33 : decode cc_FP_endTask 33 = .ok (.getfield 177, 3) := by decide +kernel
theorem d_FP_endTask_36 : decode cc_FP_endTask 36 = .ok (.aload_n 3, 1) := by decide +kernel
theorem d_FP_endTask_37 : decode cc_FP_endTask 37 = .ok (.invokevirtual 274, 3) := by decide +kernel
theorem d_FP_endTask_40 : decode cc_FP_endTask 40 = .ok (.goto (-38), 3) := by decide +kernel
theorem d_FP_endTask_43 : decode cc_FP_endTask 43 = .ok (.aload_n 0, 1) := by decide +kernel
theorem d_FP_endTask_44 : decode cc_FP_endTask 44 = .ok (.aload_n 3, 1) := by decide +kernel
theorem d_FP_endTask_45 : decode cc_FP_endTask 45 = .ok (.aload_n 2, 1) := by decide +kernel
theorem d_FP_endTask_46 : decode cc_FP_endTask 46 = .ok (.invokevirtual 277, 3) := by decide +kernel
theorem d_FP_endTask_49 : decode cc_FP_endTask 49 = .ok (.return_, 1) := by decide +kernel
theorem d_FP_fail_0 : decode cc_FP_fail 0 = .ok (.aload_n 1, 1) := by decide +kernel
theorem d_FP_fail_1 : decode cc_FP_fail 1 = .ok (.iconst 2, 1) := by decide +kernel
theorem d_FP_fail_2 : decode cc_FP_fail 2 = .ok (.putfield 119, 3) := by decide +kernel
theorem d_FP_fail_5 : decode cc_FP_fail 5 = .ok (.aload_n 1, 1) := by decide +kernel
theorem d_FP_fail_6 : decode cc_FP_fail 6 = .ok (.iload_n 2, 1) := by decide +kernel
theorem d_FP_fail_7 : decode cc_FP_fail 7 = .ok (.putfield 152, 3) := by decide +kernel
theorem d_FP_fail_10 : decode cc_FP_fail 10 = .ok (.iconst 0, 1) := by decide +kernel
theorem d_FP_fail_11 : decode cc_FP_fail 11 = .ok (.istore_n 3, 1) := by decide +kernel
theorem d_FP_fail_12 : decode cc_FP_fail 12 = .ok (.iload_n 3, 1) := by decide +kernel
theorem d_FP_fail_13 : decode cc_FP_fail 13 = .ok (.aload_n 0, 1) := by decide +kernel
theorem d_FP_fail_14 : decode cc_FP_fail 14 = .ok (.getfield 27, 3) := by decide +kernel
theorem d_FP_fail_17 : decode cc_FP_fail 17 = .ok (.arraylength, 1) := by decide +kernel
theorem d_FP_fail_18 : decode cc_FP_fail 18 = .ok (.if_icmp .ge 19, 3) := by decide +kernel
theorem d_FP_fail_21 : decode cc_FP_fail 21 = .ok (.aload_n 0, 1) := by decide +kernel
theorem d_FP_fail_22 : decode cc_FP_fail 22 = .ok (.getfield 27, 3) := by decide +kernel
theorem d_FP_fail_25 : decode cc_FP_fail 25 = .ok (.iload_n 3, 1) := by decide +kernel
theorem d_FP_fail_26 : decode cc_FP_fail 26 = .ok (.aaload, 1) := by decide +kernel
theorem d_FP_fail_27 : decode cc_FP_fail 27 = .ok (.aload_n 1, 1) := by decide +kernel
theorem d_FP_fail_28 : decode cc_FP_fail 28 = .ok (.invokevirtual 281, 3) := by decide +kernel
theorem d_FP_fail_31 : decode cc_FP_fail 31 = .ok (.iinc 3 1, 3) := by decide +kernel
theorem d_FP_fail_34 : decode cc_FP_fail 34 = .ok (.goto (-22), 3) := by decide +kernel
theorem d_FP_fail_37 : decode cc_FP_fail 37 = .ok (.return_, 1) := by decide +kernel
theorem d_FP_findVictim_0 : decode cc_FP_findVictim 0 = .ok (.iconst 1, 1) := by decide +kernel
theorem d_FP_findVictim_1 : decode cc_FP_findVictim 1 = .ok (.istore_n 2, 1) := by decide +kernel
theorem d_FP_findVictim_2 : decode cc_FP_findVictim 2 = .ok (.iload_n 2, 1) := by decide +kernel
theorem d_FP_findVictim_3 : decode cc_FP_findVictim 3 = .ok (.aload_n 0, 1) := by decide +kernel
theorem d_FP_findVictim_4 : decode cc_FP_findVictim 4 = .ok (.getfield 27, 3) := by decide +kernel
theorem d_FP_findVictim_7 : decode cc_FP_findVictim 7 = .ok (.arraylength, 1) := by decide +kernel
theorem d_FP_findVictim_8 : decode cc_FP_findVictim 8 = .ok (.if_icmp .gt 46, 3) := by decide +kernel
theorem d_FP_findVictim_11 : decode cc_FP_findVictim 11 = .ok (.aload_n 1, 1) := by decide +kernel
theorem d_FP_findVictim_12 : decode cc_FP_findVictim 12 = .ok (.getfield 196, 3) := by decide +kernel
theorem d_FP_findVictim_15 : decode cc_FP_findVictim 15 = .ok (.iload_n 2, 1) := by decide +kernel
theorem d_FP_findVictim_16 : decode cc_FP_findVictim 16 = .ok (.iadd, 1) := by decide +kernel
theorem d_FP_findVictim_17 : decode cc_FP_findVictim 17 = .ok (.aload_n 0, 1) := by decide +kernel
theorem d_FP_findVictim_18 : decode cc_FP_findVictim 18 = .ok (.getfield 27, 3) := by decide +kernel
theorem d_FP_findVictim_21 : decode cc_FP_findVictim 21 = .ok (.arraylength, 1) := by decide +kernel
theorem d_FP_findVictim_22 : decode cc_FP_findVictim 22 = .ok (.irem, 1) := by decide +kernel
theorem d_FP_findVictim_23 : decode cc_FP_findVictim 23 = .ok (.istore_n 3, 1) := by decide +kernel
theorem d_FP_findVictim_24 : decode cc_FP_findVictim 24 = .ok (.aload_n 0, 1) := by decide +kernel
theorem d_FP_findVictim_25 : decode cc_FP_findVictim 25 = .ok (.getfield 27, 3) := by decide +kernel
theorem d_FP_findVictim_28 : decode cc_FP_findVictim 28 = .ok (.iload_n 3, 1) := by decide +kernel
theorem d_FP_findVictim_29 : decode cc_FP_findVictim 29 = .ok (.aaload, 1) := by decide +kernel
theorem d_FP_findVictim_30 : decode cc_FP_findVictim 30 = .ok (.invokevirtual 164, 3) := by decide +kernel
theorem d_FP_findVictim_33 : decode cc_FP_findVictim 33 = .ok (.ifCond .le 15, 3) := by decide +kernel
theorem d_FP_findVictim_36 : decode cc_FP_findVictim 36 = .ok (.aload_n 1, 1) := by decide +kernel
theorem d_FP_findVictim_37 : decode cc_FP_findVictim 37 = .ok (.iload_n 3, 1) := by decide +kernel
theorem d_FP_findVictim_38 : decode cc_FP_findVictim 38 = .ok (.putfield 196, 3) := by decide +kernel
theorem d_FP_findVictim_41 : decode cc_FP_findVictim 41 = .ok (.aload_n 0, 1) := by decide +kernel
theorem d_FP_findVictim_42 : decode cc_FP_findVictim 42 = .ok (.getfield 27, 3) := by decide +kernel
theorem d_FP_findVictim_45 : decode cc_FP_findVictim 45 = .ok (.iload_n 3, 1) := by decide +kernel
theorem d_FP_findVictim_46 : decode cc_FP_findVictim 46 = .ok (.aaload, 1) := by decide +kernel
theorem d_FP_findVictim_47 : decode cc_FP_findVictim 47 = .ok (.areturn, 1) := by decide +kernel
theorem d_FP_findVictim_48 : decode cc_FP_findVictim 48 = .ok (.iinc 2 1, 3) := by decide +kernel
theorem d_FP_findVictim_51 : decode cc_FP_findVictim 51 = .ok (.goto (-49), 3) := by decide +kernel
theorem d_FP_findVictim_54 : decode cc_FP_findVictim 54 = .ok (.aconst_null, 1) := by decide +kernel
theorem d_FP_findVictim_55 : decode cc_FP_findVictim 55 = .ok (.areturn, 1) := by decide +kernel
theorem d_FP_get_0 : decode cc_FP_get 0 = .ok (.aload_n 0, 1) := by decide +kernel
theorem d_FP_get_1 : decode cc_FP_get 1 = .ok (.iload_n 1, 1) := by decide +kernel
theorem d_FP_get_2 : decode cc_FP_get 2 = .ok (.iload_n 2, 1) := by decide +kernel
theorem d_FP_get_3 : decode cc_FP_get 3 = .ok (.invokevirtual 63, 3) := by decide +kernel
theorem d_FP_get_6 : decode cc_FP_get 6 = .ok (.getfield 67, 3) := by decide +kernel
theorem d_FP_get_9 : decode cc_FP_get 9 = .ok (.iload_n 2, 1) := by decide +kernel
theorem d_FP_get_10 : decode cc_FP_get 10 = .ok (.laload, 1) := by decide +kernel
theorem d_FP_get_11 : decode cc_FP_get 11 = .ok (.lreturn, 1) := by decide +kernel
theorem d_FP_grain_0 : decode cc_FP_grain 0 = .ok (.iload_n 1, 1) := by decide +kernel
theorem d_FP_grain_1 : decode cc_FP_grain 1 = .ok (.iconst 1, 1) := by decide +kernel
theorem d_FP_grain_2 : decode cc_FP_grain 2 = .ok (.bipush 24, 2) := by decide +kernel
theorem d_FP_grain_4 : decode cc_FP_grain 4 = .ok (.invokestatic 44, 3) := by decide +kernel
theorem d_FP_grain_7 : decode cc_FP_grain 7 = .ok (.ifCond .ne 13, 3) := by decide +kernel
theorem d_FP_grain_10 : decode cc_FP_grain 10 = .ok (.new 48, 3) := by decide +kernel
theorem d_FP_grain_13 : decode cc_FP_grain 13 = .ok (.dup, 1) := by decide +kernel
theorem d_FP_grain_14 : decode cc_FP_grain 14 = .ok (.ldc 201, 2) := by decide +kernel
theorem d_FP_grain_16 : decode cc_FP_grain 16 = .ok (.invokespecial 52, 3) := by decide +kernel
theorem d_FP_grain_19 : decode cc_FP_grain 19 = .ok (.athrow, 1) := by decide +kernel
theorem d_FP_grain_20 : decode cc_FP_grain 20 = .ok (.aload_n 0, 1) := by decide +kernel
theorem d_FP_grain_21 : decode cc_FP_grain 21 = .ok (.getfield 40, 3) := by decide +kernel
theorem d_FP_grain_24 : decode cc_FP_grain 24 = .ok (.istore_n 2, 1) := by decide +kernel
theorem d_FP_grain_25 : decode cc_FP_grain 25 = .ok (.aload_n 0, 1) := by decide +kernel
theorem d_FP_grain_26 : decode cc_FP_grain 26 = .ok (.iload_n 1, 1) := by decide +kernel
theorem d_FP_grain_27 : decode cc_FP_grain 27 = .ok (.putfield 40, 3) := by decide +kernel
theorem d_FP_grain_30 : decode cc_FP_grain 30 = .ok (.iload_n 2, 1) := by decide +kernel
theorem d_FP_grain_31 : decode cc_FP_grain 31 = .ok (.ireturn, 1) := by decide +kernel
theorem d_FP_init_0 : decode cc_FP_init 0 = .ok (.aload_n 0, 1) := by decide +kernel
theorem d_FP_init_1 : decode cc_FP_init 1 = .ok (.invokespecial 3, 3) := by decide +kernel
theorem d_FP_init_4 : decode cc_FP_init 4 = .ok (.aload_n 0, 1) := by decide +kernel
theorem d_FP_init_5 : decode cc_FP_init 5 = .ok (.iconst 4, 1) := by decide +kernel
theorem d_FP_init_6 : decode cc_FP_init 6 = .ok (.anewarray 9, 3) := by decide +kernel
theorem d_FP_init_9 : decode cc_FP_init 9 = .ok (.putfield 11, 3) := by decide +kernel
theorem d_FP_init_12 : decode cc_FP_init 12 = .ok (.iconst 0, 1) := by decide +kernel
theorem d_FP_init_13 : decode cc_FP_init 13 = .ok (.istore_n 2, 1) := by decide +kernel
theorem d_FP_init_14 : decode cc_FP_init 14 = .ok (.iload_n 2, 1) := by decide +kernel
theorem d_FP_init_15 : decode cc_FP_init 15 = .ok (.iconst 4, 1) := by decide +kernel
theorem d_FP_init_16 : decode cc_FP_init 16 = .ok (.if_icmp .ge 22, 3) := by decide +kernel
theorem d_FP_init_19 : decode cc_FP_init 19 = .ok (.aload_n 0, 1) := by decide +kernel
theorem d_FP_init_20 : decode cc_FP_init 20 = .ok (.getfield 11, 3) := by decide +kernel
theorem d_FP_init_23 : decode cc_FP_init 23 = .ok (.iload_n 2, 1) := by decide +kernel
theorem d_FP_init_24 : decode cc_FP_init 24 = .ok (.new 9, 3) := by decide +kernel
theorem d_FP_init_27 : decode cc_FP_init 27 = .ok (.dup, 1) := by decide +kernel
theorem d_FP_init_28 : decode cc_FP_init 28 = .ok (.invokespecial 15, 3) := by decide +kernel
theorem d_FP_init_31 : decode cc_FP_init 31 = .ok (.aastore, 1) := by decide +kernel
theorem d_FP_init_32 : decode cc_FP_init 32 = .ok (.iinc 2 1, 3) := by decide +kernel
theorem d_FP_init_35 : decode cc_FP_init 35 = .ok (.goto (-21), 3) := by decide +kernel
theorem d_FP_init_38 : decode cc_FP_init 38 = .ok (.aload_n 0, 1) := by decide +kernel
theorem d_FP_init_39 : decode cc_FP_init 39 = .ok (.iconst 1, 1) := by decide +kernel
theorem d_FP_init_40 : decode cc_FP_init 40 = .ok (.iconst 4, 1) := by decide +kernel
theorem d_FP_init_41 : decode cc_FP_init 41 = .ok (.iload_n 1, 1) := by decide +kernel
theorem d_FP_init_42 : decode cc_FP_init 42 = .ok (.invokestatic 16, 3) := by decide +kernel
theorem d_FP_init_45 : decode cc_FP_init 45 = .ok (.invokestatic 22, 3) := by decide +kernel
theorem d_FP_init_48 : decode cc_FP_init 48 = .ok (.anewarray 25, 3) := by decide +kernel
theorem d_FP_init_51 : decode cc_FP_init 51 = .ok (.putfield 27, 3) := by decide +kernel
theorem d_FP_init_54 : decode cc_FP_init 54 = .ok (.iconst 0, 1) := by decide +kernel
theorem d_FP_init_55 : decode cc_FP_init 55 = .ok (.istore_n 2, 1) := by decide +kernel
theorem d_FP_init_56 : decode cc_FP_init 56 = .ok (.iload_n 2, 1) := by decide +kernel
theorem d_FP_init_57 : decode cc_FP_init 57 = .ok (.aload_n 0, 1) := by decide +kernel
theorem d_FP_init_58 : decode cc_FP_init 58 = .ok (.getfield 27, 3) := by decide +kernel
theorem d_FP_init_61 : decode cc_FP_init 61 = .ok (.arraylength, 1) := by decide +kernel
theorem d_FP_init_62 : decode cc_FP_init 62 = .ok (.if_icmp .ge 23, 3) := by decide +kernel
theorem d_FP_init_65 : decode cc_FP_init 65 = .ok (.aload_n 0, 1) := by decide +kernel
theorem d_FP_init_66 : decode cc_FP_init 66 = .ok (.getfield 27, 3) := by decide +kernel
theorem d_FP_init_69 : decode cc_FP_init 69 = .ok (.iload_n 2, 1) := by decide +kernel
theorem d_FP_init_70 : decode cc_FP_init 70 = .ok (.new 25, 3) := by decide +kernel
theorem d_FP_init_73 : decode cc_FP_init 73 = .ok (.dup, 1) := by decide +kernel
theorem d_FP_init_74 : decode cc_FP_init 74 = .ok (.iload_n 2, 1) := by decide +kernel
theorem d_FP_init_75 : decode cc_FP_init 75 = .ok (.invokespecial 31, 3) := by decide +kernel
theorem d_FP_init_78 : decode cc_FP_init 78 = .ok (.aastore, 1) := by decide +kernel
theorem d_FP_init_79 : decode cc_FP_init 79 = .ok (.iinc 2 1, 3) := by decide +kernel
theorem d_FP_init_82 : decode cc_FP_init 82 = .ok (.goto (-26), 3) := by decide +kernel
theorem d_FP_init_85 : decode cc_FP_init 85 = .ok (.aload_n 0, 1) := by decide +kernel
theorem d_FP_init_86 : decode cc_FP_init 86 = .ok (.bipush 12, 2) := by decide +kernel
theorem d_FP_init_88 : decode cc_FP_init 88 = .ok (.anewarray 34, 3) := by decide +kernel
theorem d_FP_init_91 : decode cc_FP_init 91 = .ok (.putfield 36, 3) := by decide +kernel
theorem d_FP_init_94 : decode cc_FP_init 94 = .ok (.aload_n 0, 1) := by decide +kernel
theorem d_FP_init_95 : decode cc_FP_init 95 = .ok (.iconst 4, 1) := by decide +kernel
theorem d_FP_init_96 : decode cc_FP_init 96 = .ok (.putfield 40, 3) := by decide +kernel
theorem d_FP_init_99 : decode cc_FP_init 99 = .ok (.return_, 1) := by decide +kernel
theorem d_FP_isWithin_0 : decode cc_FP_isWithin 0 = .ok (.iload_n 0, 1) := by decide +kernel
theorem d_FP_isWithin_1 : decode cc_FP_isWithin 1 = .ok (.iload_n 1, 1) := by decide +kernel
theorem d_FP_isWithin_2 : decode cc_FP_isWithin 2 = .ok (.if_icmp .lt 12, 3) := by decide +kernel
theorem d_FP_isWithin_5 : decode cc_FP_isWithin 5 = .ok (.iload_n 0, 1) := by decide +kernel
theorem d_FP_isWithin_6 : decode cc_FP_isWithin 6 = .ok (.iload_n 2, 1) := by decide +kernel
theorem d_FP_isWithin_7 : decode cc_FP_isWithin 7 = .ok (.if_icmp .gt 7, 3) := by decide +kernel
theorem d_FP_isWithin_10 : decode cc_FP_isWithin 10 = .ok (.iconst 1, 1) := by decide +kernel
theorem d_FP_isWithin_11 : decode cc_FP_isWithin 11 = .ok (.goto 4, 3) := by decide +kernel
theorem d_FP_isWithin_14 : decode cc_FP_isWithin 14 = .ok (.iconst 0, 1) := by decide +kernel
theorem d_FP_isWithin_15 : decode cc_FP_isWithin 15 = .ok (.ireturn, 1) := by decide +kernel
theorem d_FP_job_0 : decode cc_FP_job 0 = .ok (.aload_n 0, 1) := by decide +kernel
theorem d_FP_job_1 : decode cc_FP_job 1 = .ok (.iload_n 1, 1) := by decide +kernel
theorem d_FP_job_2 : decode cc_FP_job 2 = .ok (.invokevirtual 115, 3) := by decide +kernel
theorem d_FP_job_5 : decode cc_FP_job 5 = .ok (.astore_n 3, 1) := by decide +kernel
theorem d_FP_job_6 : decode cc_FP_job 6 = .ok (.iload_n 2, 1) := by decide +kernel
theorem d_FP_job_7 : decode cc_FP_job 7 = .ok (.tableswitch 59 0 4 #[33, 38, 43, 48, 54], 33) := by decide +kernel
theorem d_FP_job_40 : decode cc_FP_job 40 = .ok (.aload_n 3, 1) := by decide +kernel
theorem d_FP_job_41 : decode cc_FP_job 41 = .ok (.getfield 119, 3) := by decide +kernel
theorem d_FP_job_44 : decode cc_FP_job 44 = .ok (.ireturn, 1) := by decide +kernel
theorem d_FP_job_45 : decode cc_FP_job 45 = .ok (.aload_n 3, 1) := by decide +kernel
theorem d_FP_job_46 : decode cc_FP_job 46 = .ok (.getfield 152, 3) := by decide +kernel
theorem d_FP_job_49 : decode cc_FP_job 49 = .ok (.ireturn, 1) := by decide +kernel
theorem d_FP_job_50 : decode cc_FP_job 50 = .ok (.aload_n 3, 1) := by decide +kernel
theorem d_FP_job_51 : decode cc_FP_job 51 = .ok (.getfield 155, 3) := by decide +kernel
theorem d_FP_job_54 : decode cc_FP_job 54 = .ok (.ireturn, 1) := by decide +kernel
theorem d_FP_job_55 : decode cc_FP_job 55 = .ok (.aload_n 0, 1) := by decide +kernel
theorem d_FP_job_56 : decode cc_FP_job 56 = .ok (.aload_n 3, 1) := by decide +kernel
theorem d_FP_job_57 : decode cc_FP_job 57 = .ok (.invokevirtual 144, 3) := by decide +kernel
theorem d_FP_job_60 : decode cc_FP_job 60 = .ok (.ireturn, 1) := by decide +kernel
theorem d_FP_job_61 : decode cc_FP_job 61 = .ok (.aload_n 3, 1) := by decide +kernel
theorem d_FP_job_62 : decode cc_FP_job 62 = .ok (.getfield 128, 3) := by decide +kernel
theorem d_FP_job_65 : decode cc_FP_job 65 = .ok (.ireturn, 1) := by decide +kernel
theorem d_FP_job_66 : decode cc_FP_job 66 = .ok (.new 48, 3) := by decide +kernel
theorem d_FP_job_69 : decode cc_FP_job 69 = .ok (.dup, 1) := by decide +kernel
theorem d_FP_job_70 : decode cc_FP_job 70 = .ok (.ldc 158, 2) := by decide +kernel
theorem d_FP_job_72 : decode cc_FP_job 72 = .ok (.invokespecial 52, 3) := by decide +kernel
theorem d_FP_job_75 : decode cc_FP_job 75 = .ok (.athrow, 1) := by decide +kernel
theorem d_FP_join_0 : decode cc_FP_join 0 = .ok (.aload_n 0, 1) := by decide +kernel
theorem d_FP_join_1 : decode cc_FP_join 1 = .ok (.iload_n 1, 1) := by decide +kernel
theorem d_FP_join_2 : decode cc_FP_join 2 = .ok (.invokevirtual 115, 3) := by decide +kernel
theorem d_FP_join_5 : decode cc_FP_join 5 = .ok (.astore_n 2, 1) := by decide +kernel
theorem d_FP_join_6 : decode cc_FP_join 6 = .ok (.iconst 0, 1) := by decide +kernel
theorem d_FP_join_7 : decode cc_FP_join 7 = .ok (.istore_n 3, 1) := by decide +kernel
theorem d_FP_join_8 : decode cc_FP_join 8 = .ok (.aload_n 2, 1) := by decide +kernel
theorem d_FP_join_9 : decode cc_FP_join 9 = .ok (.getfield 119, 3) := by decide +kernel
theorem d_FP_join_12 : decode cc_FP_join 12 = .ok (.ifCond .ne 20, 3) := by decide +kernel
theorem d_FP_join_15 : decode cc_FP_join 15 = .ok (.iload_n 3, 1) := by decide +kernel
theorem d_FP_join_16 : decode cc_FP_join 16 = .ok (.ldc 122, 2) := by decide +kernel
theorem d_FP_join_18 : decode cc_FP_join 18 = .ok (.if_icmp .ge 14, 3) := by decide +kernel
theorem d_FP_join_21 : decode cc_FP_join 21 = .ok (.aload_n 0, 1) := by decide +kernel
theorem d_FP_join_22 : decode cc_FP_join 22 = .ok (.invokevirtual 111, 3) := by decide +kernel
theorem d_FP_join_25 : decode cc_FP_join 25 = .ok (.pop, 1) := by decide +kernel
theorem d_FP_join_26 : decode cc_FP_join 26 = .ok (.iinc 3 1, 3) := by decide +kernel
theorem d_FP_join_29 : decode cc_FP_join 29 = .ok (.goto (-21), 3) := by decide +kernel
theorem d_FP_join_32 : decode cc_FP_join 32 = .ok (.aload_n 2, 1) := by decide +kernel
theorem d_FP_join_33 : decode cc_FP_join 33 = .ok (.getfield 119, 3) := by decide +kernel
theorem d_FP_join_36 : decode cc_FP_join 36 = .ok (.iconst 2, 1) := by decide +kernel
theorem d_FP_join_37 : decode cc_FP_join 37 = .ok (.if_icmp .ne 13, 3) := by decide +kernel
theorem d_FP_join_40 : decode cc_FP_join 40 = .ok (.new 123, 3) := by decide +kernel
theorem d_FP_join_43 : decode cc_FP_join 43 = .ok (.dup, 1) := by decide +kernel
theorem d_FP_join_44 : decode cc_FP_join 44 = .ok (.ldc 125, 2) := by decide +kernel
theorem d_FP_join_46 : decode cc_FP_join 46 = .ok (.invokespecial 127, 3) := by decide +kernel
theorem d_FP_join_49 : decode cc_FP_join 49 = .ok (.athrow, 1) := by decide +kernel
theorem d_FP_join_50 : decode cc_FP_join 50 = .ok (.iload_n 3, 1) := by decide +kernel
theorem d_FP_join_51 : decode cc_FP_join 51 = .ok (.ireturn, 1) := by decide +kernel
theorem d_FP_madeRow_0 : decode cc_FP_madeRow 0 = .ok (.iload_n 1, 1) := by decide +kernel
theorem d_FP_madeRow_1 : decode cc_FP_madeRow 1 = .ok (.iconst 0, 1) := by decide +kernel
theorem d_FP_madeRow_2 : decode cc_FP_madeRow 2 = .ok (.iconst 3, 1) := by decide +kernel
theorem d_FP_madeRow_3 : decode cc_FP_madeRow 3 = .ok (.invokestatic 44, 3) := by decide +kernel
theorem d_FP_madeRow_6 : decode cc_FP_madeRow 6 = .ok (.ifCond .eq 15, 3) := by decide +kernel
theorem d_FP_madeRow_9 : decode cc_FP_madeRow 9 = .ok (.aload_n 0, 1) := by decide +kernel
theorem d_FP_madeRow_10 : decode cc_FP_madeRow 10 = .ok (.getfield 11, 3) := by decide +kernel
theorem d_FP_madeRow_13 : decode cc_FP_madeRow 13 = .ok (.iload_n 1, 1) := by decide +kernel
theorem d_FP_madeRow_14 : decode cc_FP_madeRow 14 = .ok (.aaload, 1) := by decide +kernel
theorem d_FP_madeRow_15 : decode cc_FP_madeRow 15 = .ok (.getfield 96, 3) := by decide +kernel
theorem d_FP_madeRow_18 : decode cc_FP_madeRow 18 = .ok (.ifCond .ne 13, 3) := by decide +kernel
theorem d_FP_madeRow_21 : decode cc_FP_madeRow 21 = .ok (.new 168, 3) := by decide +kernel
theorem d_FP_madeRow_24 : decode cc_FP_madeRow 24 = .ok (.dup, 1) := by decide +kernel
theorem d_FP_madeRow_25 : decode cc_FP_madeRow 25 = .ok (.ldc 211, 2) := by decide +kernel
theorem d_FP_madeRow_27 : decode cc_FP_madeRow 27 = .ok (.invokespecial 172, 3) := by decide +kernel
theorem d_FP_madeRow_30 : decode cc_FP_madeRow 30 = .ok (.athrow, 1) := by decide +kernel
theorem d_FP_madeRow_31 : decode cc_FP_madeRow 31 = .ok (.aload_n 0, 1) := by decide +kernel
theorem d_FP_madeRow_32 : decode cc_FP_madeRow 32 = .ok (.getfield 11, 3) := by decide +kernel
theorem d_FP_madeRow_35 : decode cc_FP_madeRow 35 = .ok (.iload_n 1, 1) := by decide +kernel
theorem d_FP_madeRow_36 : decode cc_FP_madeRow 36 = .ok (.aaload, 1) := by decide +kernel
theorem d_FP_madeRow_37 : decode cc_FP_madeRow 37 = .ok (.areturn, 1) := by decide +kernel
theorem d_FP_makeStep_0 : decode cc_FP_makeStep 0 = .ok (.aload_n 0, 1) := by decide +kernel
theorem d_FP_makeStep_1 : decode cc_FP_makeStep 1 = .ok (.getfield 27, 3) := by decide +kernel
theorem d_FP_makeStep_4 : decode cc_FP_makeStep 4 = .ok (.aload_n 0, 1) := by decide +kernel
theorem d_FP_makeStep_5 : decode cc_FP_makeStep 5 = .ok (.getfield 206, 3) := by decide +kernel
theorem d_FP_makeStep_8 : decode cc_FP_makeStep 8 = .ok (.aaload, 1) := by decide +kernel
theorem d_FP_makeStep_9 : decode cc_FP_makeStep 9 = .ok (.astore_n 1, 1) := by decide +kernel
theorem d_FP_makeStep_10 : decode cc_FP_makeStep 10 = .ok (.aload_n 0, 1) := by decide +kernel
theorem d_FP_makeStep_11 : decode cc_FP_makeStep 11 = .ok (.aload_n 0, 1) := by decide +kernel
theorem d_FP_makeStep_12 : decode cc_FP_makeStep 12 = .ok (.getfield 206, 3) := by decide +kernel
theorem d_FP_makeStep_15 : decode cc_FP_makeStep 15 = .ok (.iconst 1, 1) := by decide +kernel
theorem d_FP_makeStep_16 : decode cc_FP_makeStep 16 = .ok (.iadd, 1) := by decide +kernel
theorem d_FP_makeStep_17 : decode cc_FP_makeStep 17 = .ok (.aload_n 0, 1) := by decide +kernel
theorem d_FP_makeStep_18 : decode cc_FP_makeStep 18 = .ok (.getfield 27, 3) := by decide +kernel
theorem d_FP_makeStep_21 : decode cc_FP_makeStep 21 = .ok (.arraylength, 1) := by decide +kernel
theorem d_FP_makeStep_22 : decode cc_FP_makeStep 22 = .ok (.irem, 1) := by decide +kernel
theorem d_FP_makeStep_23 : decode cc_FP_makeStep 23 = .ok (.putfield 206, 3) := by decide +kernel
theorem d_FP_makeStep_26 : decode cc_FP_makeStep 26 = .ok (.aload_n 0, 1) := by decide +kernel
theorem d_FP_makeStep_27 : decode cc_FP_makeStep 27 = .ok (.dup, 1) := by decide +kernel
theorem d_FP_makeStep_28 : decode cc_FP_makeStep 28 = .ok (.getfield 203, 3) := by decide +kernel
theorem d_FP_makeStep_31 : decode cc_FP_makeStep 31 = .ok (.iconst 1, 1) := by decide +kernel
theorem d_FP_makeStep_32 : decode cc_FP_makeStep 32 = .ok (.iadd, 1) := by decide +kernel
theorem d_FP_makeStep_33 : decode cc_FP_makeStep 33 = .ok (.putfield 203, 3) := by decide +kernel
theorem d_FP_makeStep_36 : decode cc_FP_makeStep 36 = .ok (.aload_n 1, 1) := by decide +kernel
theorem d_FP_makeStep_37 : decode cc_FP_makeStep 37 = .ok (.invokevirtual 164, 3) := by decide +kernel
theorem d_FP_makeStep_40 : decode cc_FP_makeStep 40 = .ok (.ifCond .le 14, 3) := by decide +kernel
theorem d_FP_makeStep_43 : decode cc_FP_makeStep 43 = .ok (.aload_n 0, 1) := by decide +kernel
theorem d_FP_makeStep_44 : decode cc_FP_makeStep 44 = .ok (.aload_n 1, 1) := by decide +kernel
theorem d_FP_makeStep_45 : decode cc_FP_makeStep 45 = .ok (.invokevirtual 225, 3) := by decide +kernel
theorem d_FP_makeStep_48 : decode cc_FP_makeStep 48 = .ok (.aload_n 1, 1) := by decide +kernel
theorem d_FP_makeStep_49 : decode cc_FP_makeStep 49 = .ok (.invokevirtual 229, 3) := by decide +kernel
theorem d_FP_makeStep_52 : decode cc_FP_makeStep 52 = .ok (.iconst 1, 1) := by decide +kernel
theorem d_FP_makeStep_53 : decode cc_FP_makeStep 53 = .ok (.ireturn, 1) := by decide +kernel
theorem d_FP_makeStep_54 : decode cc_FP_makeStep 54 = .ok (.aload_n 0, 1) := by decide +kernel
theorem d_FP_makeStep_55 : decode cc_FP_makeStep 55 = .ok (.aload_n 1, 1) := by decide +kernel
theorem d_FP_makeStep_56 : decode cc_FP_makeStep 56 = .ok (.invokevirtual 233, 3) := by decide +kernel
theorem d_FP_makeStep_59 : decode cc_FP_makeStep 59 = .ok (.astore_n 2, 1) := by decide +kernel
theorem d_FP_makeStep_60 : decode cc_FP_makeStep 60 = .ok (.aload_n 2, 1) := by decide +kernel
theorem d_FP_makeStep_61 : decode cc_FP_makeStep 61 = .ok (.ifnonnull 15, 3) := by decide +kernel
theorem d_FP_makeStep_64 : decode cc_FP_makeStep 64 = .ok (.aload_n 1, 1) := by decide +kernel
theorem d_FP_makeStep_65 : decode cc_FP_makeStep 65 = .ok (.dup, 1) := by decide +kernel
theorem d_FP_makeStep_66 : decode cc_FP_makeStep 66 = .ok (.getfield 193, 3) := by decide +kernel
theorem d_FP_makeStep_69 : decode cc_FP_makeStep 69 = .ok (.iconst 1, 1) := by decide +kernel
theorem d_FP_makeStep_70 : decode cc_FP_makeStep 70 = .ok (.iadd, 1) := by decide +kernel
theorem d_FP_makeStep_71 : decode cc_FP_makeStep 71 = .ok (.putfield 193, 3) := by decide +kernel
theorem d_FP_makeStep_74 : decode cc_FP_makeStep 74 = .ok (.iconst 0, 1) := by decide +kernel
theorem d_FP_makeStep_75 : decode cc_FP_makeStep 75 = .ok (.ireturn, 1) := by decide +kernel
theorem d_FP_makeStep_76 : decode cc_FP_makeStep 76 = .ok (.aload_n 1, 1) := by decide +kernel
theorem d_FP_makeStep_77 : decode cc_FP_makeStep 77 = .ok (.dup, 1) := by decide +kernel
theorem d_FP_makeStep_78 : decode cc_FP_makeStep 78 = .ok (.getfield 190, 3) := by decide +kernel
theorem d_FP_makeStep_81 : decode cc_FP_makeStep 81 = .ok (.iconst 1, 1) := by decide +kernel
theorem d_FP_makeStep_82 : decode cc_FP_makeStep 82 = .ok (.iadd, 1) := by decide +kernel
theorem d_FP_makeStep_83 : decode cc_FP_makeStep 83 = .ok (.putfield 190, 3) := by decide +kernel
theorem d_FP_makeStep_86 : decode cc_FP_makeStep 86 = .ok (.aload_n 0, 1) := by decide +kernel
theorem d_FP_makeStep_87 : decode cc_FP_makeStep 87 = .ok (.aload_n 2, 1) := by decide +kernel
theorem d_FP_makeStep_88 : decode cc_FP_makeStep 88 = .ok (.invokevirtual 237, 3) := by decide +kernel
theorem d_FP_makeStep_91 : decode cc_FP_makeStep 91 = .ok (.aload_n 1, 1) := by decide +kernel
theorem d_FP_makeStep_92 : decode cc_FP_makeStep 92 = .ok (.invokevirtual 229, 3) := by decide +kernel
theorem d_FP_makeStep_95 : decode cc_FP_makeStep 95 = .ok (.iconst 1, 1) := by decide +kernel
theorem d_FP_makeStep_96 : decode cc_FP_makeStep 96 = .ok (.ireturn, 1) := by decide +kernel
theorem d_FP_mustFork_0 : decode cc_FP_mustFork 0 = .ok (.aload_n 1, 1) := by decide +kernel
theorem d_FP_mustFork_1 : decode cc_FP_mustFork 1 = .ok (.getfield 177, 3) := by decide +kernel
theorem d_FP_mustFork_4 : decode cc_FP_mustFork 4 = .ok (.getfield 261, 3) := by decide +kernel
theorem d_FP_mustFork_7 : decode cc_FP_mustFork 7 = .ok (.ifCond .eq 8, 3) := by decide +kernel
theorem d_FP_mustFork_10 : decode cc_FP_mustFork 10 = .ok (.aload_n 1, 1) := by decide +kernel
theorem d_FP_mustFork_11 : decode cc_FP_mustFork 11 = .ok (.invokevirtual 265, 3) := by decide +kernel
theorem d_FP_mustFork_14 : decode cc_FP_mustFork 14 = .ok (.ireturn, 1) := by decide +kernel
theorem d_FP_mustFork_15 : decode cc_FP_mustFork 15 = .ok (.aload_n 1, 1) := by decide +kernel
theorem d_FP_mustFork_16 : decode cc_FP_mustFork 16 = .ok (.getfield 184, 3) := by decide +kernel
theorem d_FP_mustFork_19 : decode cc_FP_mustFork 19 = .ok (.aload_n 1, 1) := by decide +kernel
theorem d_FP_mustFork_20 : decode cc_FP_mustFork 20 = .ok (.getfield 181, 3) := by decide +kernel
theorem d_FP_mustFork_23 : decode cc_FP_mustFork 23 = .ok (.isub, 1) := by decide +kernel
theorem d_FP_mustFork_24 : decode cc_FP_mustFork 24 = .ok (.aload_n 0, 1) := by decide +kernel
theorem d_FP_mustFork_25 : decode cc_FP_mustFork 25 = .ok (.getfield 40, 3) := by decide +kernel
theorem d_FP_mustFork_28 : decode cc_FP_mustFork 28 = .ok (.if_icmp .le 7, 3) := by decide +kernel
theorem d_FP_mustFork_31 : decode cc_FP_mustFork 31 = .ok (.iconst 1, 1) := by decide +kernel
theorem d_FP_mustFork_32 : decode cc_FP_mustFork 32 = .ok (.goto 4, 3) := by decide +kernel
theorem d_FP_mustFork_35 : decode cc_FP_mustFork 35 = .ok (.iconst 0, 1) := by decide +kernel
theorem d_FP_mustFork_36 : decode cc_FP_mustFork 36 = .ok (.ireturn, 1) := by decide +kernel
theorem d_FP_perform_0 : decode cc_FP_perform 0 = .ok (.aload_n 2, 1) := by decide +kernel
theorem d_FP_perform_1 : decode cc_FP_perform 1 = .ok (.dup, 1) := by decide +kernel
theorem d_FP_perform_2 : decode cc_FP_perform 2 = .ok (.getfield 189, 3) := by decide +kernel
theorem d_FP_perform_5 : decode cc_FP_perform 5 = .ok (.iconst 1, 1) := by decide +kernel
theorem d_FP_perform_6 : decode cc_FP_perform 6 = .ok (.iadd, 1) := by decide +kernel
theorem d_FP_perform_7 : decode cc_FP_perform 7 = .ok (.putfield 189, 3) := by decide +kernel
theorem d_FP_perform_10 : decode cc_FP_perform 10 = .ok (.aload_n 1, 1) := by decide +kernel
theorem d_FP_perform_11 : decode cc_FP_perform 11 = .ok (.getfield 177, 3) := by decide +kernel
theorem d_FP_perform_14 : decode cc_FP_perform 14 = .ok (.dup, 1) := by decide +kernel
theorem d_FP_perform_15 : decode cc_FP_perform 15 = .ok (.getfield 155, 3) := by decide +kernel
theorem d_FP_perform_18 : decode cc_FP_perform 18 = .ok (.iconst 1, 1) := by decide +kernel
theorem d_FP_perform_19 : decode cc_FP_perform 19 = .ok (.iadd, 1) := by decide +kernel
theorem d_FP_perform_20 : decode cc_FP_perform 20 = .ok (.putfield 155, 3) := by decide +kernel
theorem d_FP_perform_23 : decode cc_FP_perform 23 = .ok (.aload_n 0, 1) := by decide +kernel
theorem d_FP_perform_24 : decode cc_FP_perform 24 = .ok (.aload_n 1, 1) := by decide +kernel
theorem d_FP_perform_25 : decode cc_FP_perform 25 = .ok (.invokevirtual 240, 3) := by decide +kernel
theorem d_FP_perform_28 : decode cc_FP_perform 28 = .ok (.ifCond .eq 24, 3) := by decide +kernel
theorem d_FP_perform_31 : decode cc_FP_perform 31 = .ok (.aload_n 1, 1) := by decide +kernel
theorem d_FP_perform_32 : decode cc_FP_perform 32 = .ok (.invokevirtual 244, 3) := by decide +kernel
theorem d_FP_perform_35 : decode cc_FP_perform 35 = .ok (.aload_n 2, 1) := by decide +kernel
theorem d_FP_perform_36 : decode cc_FP_perform 36 = .ok (.aload_n 1, 1) := by decide +kernel
theorem d_FP_perform_37 : decode cc_FP_perform 37 = .ok (.getfield 247, 3) := by decide +kernel
theorem d_FP_perform_40 : decode cc_FP_perform 40 = .ok (.invokevirtual 102, 3) := by decide +kernel
theorem d_FP_perform_43 : decode cc_FP_perform 43 = .ok (.aload_n 2, 1) := by decide +kernel
theorem d_FP_perform_44 : decode cc_FP_perform 44 = .ok (.aload_n 1, 1) := by decide +kernel
theorem d_FP_perform_45 : decode cc_FP_perform 45 = .ok (.getfield 251, 3) := by decide +kernel
theorem d_FP_perform_48 : decode cc_FP_perform 48 = .ok (.invokevirtual 102, 3) := by decide +kernel
theorem d_FP_perform_51 : decode cc_FP_perform 51 = .ok (.return_, 1) := by decide +kernel
theorem d_FP_perform_52 : decode cc_FP_perform 52 = .ok (.aload_n 1, 1) := by decide +kernel
theorem d_FP_perform_53 : decode cc_FP_perform 53 = .ok (.getfield 177, 3) := by decide +kernel
theorem d_FP_perform_56 : decode cc_FP_perform 56 = .ok (.aload_n 1, 1) := by decide +kernel
theorem d_FP_perform_57 : decode cc_FP_perform 57 = .ok (.invokevirtual 254, 3) := by decide +kernel
theorem d_FP_perform_60 : decode cc_FP_perform 60 = .ok (.istore_n 3, 1) := by decide +kernel
theorem d_FP_perform_61 : decode cc_FP_perform 61 = .ok (.iload_n 3, 1) := by decide +kernel
theorem d_FP_perform_62 : decode cc_FP_perform 62 = .ok (.iconst (-1), 1) := by decide +kernel
theorem d_FP_perform_63 : decode cc_FP_perform 63 = .ok (.if_icmp .ne 12, 3) := by decide +kernel
theorem d_FP_perform_66 : decode cc_FP_perform 66 = .ok (.aload_n 0, 1) := by decide +kernel
theorem d_FP_perform_67 : decode cc_FP_perform 67 = .ok (.aload_n 1, 1) := by decide +kernel
theorem d_FP_perform_68 : decode cc_FP_perform 68 = .ok (.aload_n 2, 1) := by decide +kernel
theorem d_FP_perform_69 : decode cc_FP_perform 69 = .ok (.invokevirtual 258, 3) := by decide +kernel
theorem d_FP_perform_72 : decode cc_FP_perform 72 = .ok (.goto 12, 3) := by decide +kernel
theorem d_FP_perform_75 : decode cc_FP_perform 75 = .ok (.aload_n 0, 1) := by decide +kernel
theorem d_FP_perform_76 : decode cc_FP_perform 76 = .ok (.aload_n 1, 1) := by decide +kernel
theorem d_FP_perform_77 : decode cc_FP_perform 77 = .ok (.getfield 177, 3) := by decide +kernel
theorem d_FP_perform_80 : decode cc_FP_perform 80 = .ok (.iload_n 3, 1) := by decide +kernel
theorem d_FP_perform_81 : decode cc_FP_perform 81 = .ok (.invokevirtual 148, 3) := by decide +kernel
theorem d_FP_perform_84 : decode cc_FP_perform 84 = .ok (.return_, 1) := by decide +kernel
theorem d_FP_queuedTasks_0 : decode cc_FP_queuedTasks 0 = .ok (.iconst 0, 1) := by decide +kernel
theorem d_FP_queuedTasks_1 : decode cc_FP_queuedTasks 1 = .ok (.istore_n 2, 1) := by decide +kernel
theorem d_FP_queuedTasks_2 : decode cc_FP_queuedTasks 2 = .ok (.iconst 0, 1) := by decide +kernel
theorem d_FP_queuedTasks_3 : decode cc_FP_queuedTasks 3 = .ok (.istore_n 3, 1) := by decide +kernel
theorem d_FP_queuedTasks_4 : decode cc_FP_queuedTasks 4 = .ok (.iload_n 3, 1) := by decide +kernel
theorem d_FP_queuedTasks_5 : decode cc_FP_queuedTasks 5 = .ok (.aload_n 0, 1) := by decide +kernel
theorem d_FP_queuedTasks_6 : decode cc_FP_queuedTasks 6 = .ok (.getfield 27, 3) := by decide +kernel
theorem d_FP_queuedTasks_9 : decode cc_FP_queuedTasks 9 = .ok (.arraylength, 1) := by decide +kernel
theorem d_FP_queuedTasks_10 : decode cc_FP_queuedTasks 10 = .ok (.if_icmp .ge 22, 3) := by decide +kernel
theorem d_FP_queuedTasks_13 : decode cc_FP_queuedTasks 13 = .ok (.iload_n 2, 1) := by decide +kernel
theorem d_FP_queuedTasks_14 : decode cc_FP_queuedTasks 14 = .ok (.aload_n 0, 1) := by decide +kernel
theorem d_FP_queuedTasks_15 : decode cc_FP_queuedTasks 15 = .ok (.getfield 27, 3) := by decide +kernel
theorem d_FP_queuedTasks_18 : decode cc_FP_queuedTasks 18 = .ok (.iload_n 3, 1) := by decide +kernel
theorem d_FP_queuedTasks_19 : decode cc_FP_queuedTasks 19 = .ok (.aaload, 1) := by decide +kernel
theorem d_FP_queuedTasks_20 : decode cc_FP_queuedTasks 20 = .ok (.aload_n 1, 1) := by decide +kernel
theorem d_FP_queuedTasks_21 : decode cc_FP_queuedTasks 21 = .ok (.invokevirtual 285, 3) := by decide +kernel
theorem d_FP_queuedTasks_24 : decode cc_FP_queuedTasks 24 = .ok (.iadd, 1) := by decide +kernel
theorem d_FP_queuedTasks_25 : decode cc_FP_queuedTasks 25 = .ok (.istore_n 2, 1) := by decide +kernel
theorem d_FP_queuedTasks_26 : decode cc_FP_queuedTasks 26 = .ok (.iinc 3 1, 3) := by decide +kernel
theorem d_FP_queuedTasks_29 : decode cc_FP_queuedTasks 29 = .ok (.goto (-25), 3) := by decide +kernel
theorem d_FP_queuedTasks_32 : decode cc_FP_queuedTasks 32 = .ok (.iload_n 2, 1) := by decide +kernel
theorem d_FP_queuedTasks_33 : decode cc_FP_queuedTasks 33 = .ok (.ireturn, 1) := by decide +kernel
theorem d_FP_refuseIfBusy_0 : decode cc_FP_refuseIfBusy 0 = .ok (.iconst 0, 1) := by decide +kernel
theorem d_FP_refuseIfBusy_1 : decode cc_FP_refuseIfBusy 1 = .ok (.istore_n 2, 1) := by decide +kernel
theorem d_FP_refuseIfBusy_2 : decode cc_FP_refuseIfBusy 2 = .ok (.iload_n 2, 1) := by decide +kernel
theorem d_FP_refuseIfBusy_3 : decode cc_FP_refuseIfBusy 3 = .ok (.aload_n 0, 1) := by decide +kernel
theorem d_FP_refuseIfBusy_4 : decode cc_FP_refuseIfBusy 4 = .ok (.getfield 83, 3) := by decide +kernel
theorem d_FP_refuseIfBusy_7 : decode cc_FP_refuseIfBusy 7 = .ok (.if_icmp .ge 44, 3) := by decide +kernel
theorem d_FP_refuseIfBusy_10 : decode cc_FP_refuseIfBusy 10 = .ok (.aload_n 0, 1) := by decide +kernel
theorem d_FP_refuseIfBusy_11 : decode cc_FP_refuseIfBusy 11 = .ok (.getfield 36, 3) := by decide +kernel
theorem d_FP_refuseIfBusy_14 : decode cc_FP_refuseIfBusy 14 = .ok (.iload_n 2, 1) := by decide +kernel
theorem d_FP_refuseIfBusy_15 : decode cc_FP_refuseIfBusy 15 = .ok (.aaload, 1) := by decide +kernel
theorem d_FP_refuseIfBusy_16 : decode cc_FP_refuseIfBusy 16 = .ok (.getfield 215, 3) := by decide +kernel
theorem d_FP_refuseIfBusy_19 : decode cc_FP_refuseIfBusy 19 = .ok (.aload_n 1, 1) := by decide +kernel
theorem d_FP_refuseIfBusy_20 : decode cc_FP_refuseIfBusy 20 = .ok (.if_acmp .ne 25, 3) := by decide +kernel
theorem d_FP_refuseIfBusy_23 : decode cc_FP_refuseIfBusy 23 = .ok (.aload_n 0, 1) := by decide +kernel
theorem d_FP_refuseIfBusy_24 : decode cc_FP_refuseIfBusy 24 = .ok (.getfield 36, 3) := by decide +kernel
theorem d_FP_refuseIfBusy_27 : decode cc_FP_refuseIfBusy 27 = .ok (.iload_n 2, 1) := by decide +kernel
theorem d_FP_refuseIfBusy_28 : decode cc_FP_refuseIfBusy 28 = .ok (.aaload, 1) := by decide +kernel
theorem d_FP_refuseIfBusy_29 : decode cc_FP_refuseIfBusy 29 = .ok (.getfield 119, 3) := by decide +kernel
theorem d_FP_refuseIfBusy_32 : decode cc_FP_refuseIfBusy 32 = .ok (.ifCond .ne 13, 3) := by decide +kernel
theorem d_FP_refuseIfBusy_35 : decode cc_FP_refuseIfBusy 35 = .ok (.new 86, 3) := by decide +kernel
theorem d_FP_refuseIfBusy_38 : decode cc_FP_refuseIfBusy 38 = .ok (.dup, 1) := by decide +kernel
theorem d_FP_refuseIfBusy_39 : decode cc_FP_refuseIfBusy 39 = .ok (.ldc 219, 2) := by decide +kernel
theorem d_FP_refuseIfBusy_41 : decode cc_FP_refuseIfBusy 41 = .ok (.invokespecial 90, 3) := by decide +kernel
theorem d_FP_refuseIfBusy_44 : decode cc_FP_refuseIfBusy 44 = .ok (.athrow, 1) := by decide +kernel
theorem d_FP_refuseIfBusy_45 : decode cc_FP_refuseIfBusy 45 = .ok (.iinc 2 1, 3) := by decide +kernel
theorem d_FP_refuseIfBusy_48 : decode cc_FP_refuseIfBusy 48 = .ok (.goto (-46), 3) := by decide +kernel
theorem d_FP_refuseIfBusy_51 : decode cc_FP_refuseIfBusy 51 = .ok (.return_, 1) := by decide +kernel
theorem d_FP_result_0 : decode cc_FP_result 0 = .ok (.aload_n 0, 1) := by decide +kernel
theorem d_FP_result_1 : decode cc_FP_result 1 = .ok (.iload_n 1, 1) := by decide +kernel
theorem d_FP_result_2 : decode cc_FP_result 2 = .ok (.invokevirtual 115, 3) := by decide +kernel
theorem d_FP_result_5 : decode cc_FP_result 5 = .ok (.astore_n 2, 1) := by decide +kernel
theorem d_FP_result_6 : decode cc_FP_result 6 = .ok (.aload_n 2, 1) := by decide +kernel
theorem d_FP_result_7 : decode cc_FP_result 7 = .ok (.getfield 128, 3) := by decide +kernel
theorem d_FP_result_10 : decode cc_FP_result 10 = .ok (.ifCond .eq 21, 3) := by decide +kernel
theorem d_FP_result_13 : decode cc_FP_result 13 = .ok (.aload_n 2, 1) := by decide +kernel
theorem d_FP_result_14 : decode cc_FP_result 14 = .ok (.getfield 128, 3) := by decide +kernel
theorem d_FP_result_17 : decode cc_FP_result 17 = .ok (.iconst 1, 1) := by decide +kernel
theorem d_FP_result_18 : decode cc_FP_result 18 = .ok (.if_icmp .eq 13, 3) := by decide +kernel
theorem d_FP_result_21 : decode cc_FP_result 21 = .ok (.new 131, 3) := by decide +kernel
theorem d_FP_result_24 : decode cc_FP_result 24 = .ok (.dup, 1) := by decide +kernel
theorem d_FP_result_25 : decode cc_FP_result 25 = .ok (.ldc 133, 2) := by decide +kernel
theorem d_FP_result_27 : decode cc_FP_result 27 = .ok (.invokespecial 135, 3) := by decide +kernel
theorem d_FP_result_30 : decode cc_FP_result 30 = .ok (.athrow, 1) := by decide +kernel
theorem d_FP_result_31 : decode cc_FP_result 31 = .ok (.aload_n 2, 1) := by decide +kernel
theorem d_FP_result_32 : decode cc_FP_result 32 = .ok (.getfield 119, 3) := by decide +kernel
theorem d_FP_result_35 : decode cc_FP_result 35 = .ok (.iconst 1, 1) := by decide +kernel
theorem d_FP_result_36 : decode cc_FP_result 36 = .ok (.if_icmp .eq 13, 3) := by decide +kernel
theorem d_FP_result_39 : decode cc_FP_result 39 = .ok (.new 86, 3) := by decide +kernel
theorem d_FP_result_42 : decode cc_FP_result 42 = .ok (.dup, 1) := by decide +kernel
theorem d_FP_result_43 : decode cc_FP_result 43 = .ok (.ldc 136, 2) := by decide +kernel
theorem d_FP_result_45 : decode cc_FP_result 45 = .ok (.invokespecial 90, 3) := by decide +kernel
theorem d_FP_result_48 : decode cc_FP_result 48 = .ok (.athrow, 1) := by decide +kernel
theorem d_FP_result_49 : decode cc_FP_result 49 = .ok (.aload_n 2, 1) := by decide +kernel
theorem d_FP_result_50 : decode cc_FP_result 50 = .ok (.getfield 138, 3) := by decide +kernel
theorem d_FP_result_53 : decode cc_FP_result 53 = .ok (.lreturn, 1) := by decide +kernel
theorem d_FP_rowWith_0 : decode cc_FP_rowWith 0 = .ok (.aload_n 0, 1) := by decide +kernel
theorem d_FP_rowWith_1 : decode cc_FP_rowWith 1 = .ok (.iload_n 1, 1) := by decide +kernel
theorem d_FP_rowWith_2 : decode cc_FP_rowWith 2 = .ok (.invokevirtual 75, 3) := by decide +kernel
theorem d_FP_rowWith_5 : decode cc_FP_rowWith 5 = .ok (.astore_n 3, 1) := by decide +kernel
theorem d_FP_rowWith_6 : decode cc_FP_rowWith 6 = .ok (.iload_n 2, 1) := by decide +kernel
theorem d_FP_rowWith_7 : decode cc_FP_rowWith 7 = .ok (.iconst 0, 1) := by decide +kernel
theorem d_FP_rowWith_8 : decode cc_FP_rowWith 8 = .ok (.aload_n 3, 1) := by decide +kernel
theorem d_FP_rowWith_9 : decode cc_FP_rowWith 9 = .ok (.getfield 96, 3) := by decide +kernel
theorem d_FP_rowWith_12 : decode cc_FP_rowWith 12 = .ok (.iconst 1, 1) := by decide +kernel
theorem d_FP_rowWith_13 : decode cc_FP_rowWith 13 = .ok (.isub, 1) := by decide +kernel
theorem d_FP_rowWith_14 : decode cc_FP_rowWith 14 = .ok (.invokestatic 44, 3) := by decide +kernel
theorem d_FP_rowWith_17 : decode cc_FP_rowWith 17 = .ok (.ifCond .ne 13, 3) := by decide +kernel
theorem d_FP_rowWith_20 : decode cc_FP_rowWith 20 = .ok (.new 168, 3) := by decide +kernel
theorem d_FP_rowWith_23 : decode cc_FP_rowWith 23 = .ok (.dup, 1) := by decide +kernel
theorem d_FP_rowWith_24 : decode cc_FP_rowWith 24 = .ok (.ldc 213, 2) := by decide +kernel
theorem d_FP_rowWith_26 : decode cc_FP_rowWith 26 = .ok (.invokespecial 172, 3) := by decide +kernel
theorem d_FP_rowWith_29 : decode cc_FP_rowWith 29 = .ok (.athrow, 1) := by decide +kernel
theorem d_FP_rowWith_30 : decode cc_FP_rowWith 30 = .ok (.aload_n 3, 1) := by decide +kernel
theorem d_FP_rowWith_31 : decode cc_FP_rowWith 31 = .ok (.areturn, 1) := by decide +kernel
theorem d_FP_set_0 : decode cc_FP_set 0 = .ok (.aload_n 0, 1) := by decide +kernel
theorem d_FP_set_1 : decode cc_FP_set 1 = .ok (.iload_n 1, 1) := by decide +kernel
theorem d_FP_set_2 : decode cc_FP_set 2 = .ok (.iload_n 2, 1) := by decide +kernel
theorem d_FP_set_3 : decode cc_FP_set 3 = .ok (.invokevirtual 63, 3) := by decide +kernel
theorem d_FP_set_6 : decode cc_FP_set 6 = .ok (.astore 5, 2) := by decide +kernel
theorem d_FP_set_8 : decode cc_FP_set 8 = .ok (.aload_n 0, 1) := by decide +kernel
theorem d_FP_set_9 : decode cc_FP_set 9 = .ok (.aload 5, 2) := by decide +kernel
theorem d_FP_set_11 : decode cc_FP_set 11 = .ok (.invokevirtual 55, 3) := by decide +kernel
theorem d_FP_set_14 : decode cc_FP_set 14 = .ok (.aload 5, 2) := by decide +kernel
theorem d_FP_set_16 : decode cc_FP_set 16 = .ok (.getfield 67, 3) := by decide +kernel
theorem d_FP_set_19 : decode cc_FP_set 19 = .ok (.iload_n 2, 1) := by decide +kernel
theorem d_FP_set_20 : decode cc_FP_set 20 = .ok (.aload 5, 2) := by decide +kernel
theorem d_FP_set_22 : decode cc_FP_set 22 = .ok (.lload_n 3, 1) := by decide +kernel
theorem d_FP_set_23 : decode cc_FP_set 23 = .ok (.invokevirtual 71, 3) := by decide +kernel
theorem d_FP_set_26 : decode cc_FP_set 26 = .ok (.lastore, 1) := by decide +kernel
theorem d_FP_set_27 : decode cc_FP_set 27 = .ok (.aload 5, 2) := by decide +kernel
theorem d_FP_set_29 : decode cc_FP_set 29 = .ok (.getfield 67, 3) := by decide +kernel
theorem d_FP_set_32 : decode cc_FP_set 32 = .ok (.iload_n 2, 1) := by decide +kernel
theorem d_FP_set_33 : decode cc_FP_set 33 = .ok (.laload, 1) := by decide +kernel
theorem d_FP_set_34 : decode cc_FP_set 34 = .ok (.lreturn, 1) := by decide +kernel
theorem d_FP_step_0 : decode cc_FP_step 0 = .ok (.iload_n 1, 1) := by decide +kernel
theorem d_FP_step_1 : decode cc_FP_step 1 = .ok (.iconst 1, 1) := by decide +kernel
end
section
theorem d_FP_step_2 : decode cc_FP_step 2 = .ok (.bipush 60, 2) := by decide +kernel
theorem d_FP_step_4 : decode cc_FP_step 4 = .ok (.invokestatic 44, 3) := by decide +kernel
theorem d_FP_step_7 : decode cc_FP_step 7 = .ok (.ifCond .ne 13, 3) := by decide +kernel
theorem d_FP_step_10 : decode cc_FP_step 10 = .ok (.new 48, 3) := by decide +kernel
theorem d_FP_step_13 : decode cc_FP_step 13 = .ok (.dup, 1) := by decide +kernel
theorem d_FP_step_14 : decode cc_FP_step 14 = .ok (.ldc 109, 2) := by decide +kernel
theorem d_FP_step_16 : decode cc_FP_step 16 = .ok (.invokespecial 52, 3) := by decide +kernel
theorem d_FP_step_19 : decode cc_FP_step 19 = .ok (.athrow, 1) := by decide +kernel
theorem d_FP_step_20 : decode cc_FP_step 20 = .ok (.iconst 0, 1) := by decide +kernel
theorem d_FP_step_21 : decode cc_FP_step 21 = .ok (.istore_n 2, 1) := by decide +kernel
theorem d_FP_step_22 : decode cc_FP_step 22 = .ok (.iconst 0, 1) := by decide +kernel
theorem d_FP_step_23 : decode cc_FP_step 23 = .ok (.istore_n 3, 1) := by decide +kernel
theorem d_FP_step_24 : decode cc_FP_step 24 = .ok (.iload_n 3, 1) := by decide +kernel
theorem d_FP_step_25 : decode cc_FP_step 25 = .ok (.iload_n 1, 1) := by decide +kernel
theorem d_FP_step_26 : decode cc_FP_step 26 = .ok (.if_icmp .ge 19, 3) := by decide +kernel
theorem d_FP_step_29 : decode cc_FP_step 29 = .ok (.aload_n 0, 1) := by decide +kernel
theorem d_FP_step_30 : decode cc_FP_step 30 = .ok (.invokevirtual 111, 3) := by decide +kernel
theorem d_FP_step_33 : decode cc_FP_step 33 = .ok (.ifCond .eq 6, 3) := by decide +kernel
theorem d_FP_step_36 : decode cc_FP_step 36 = .ok (.iinc 2 1, 3) := by decide +kernel
theorem d_FP_step_39 : decode cc_FP_step 39 = .ok (.iinc 3 1, 3) := by decide +kernel
theorem d_FP_step_42 : decode cc_FP_step 42 = .ok (.goto (-18), 3) := by decide +kernel
theorem d_FP_step_45 : decode cc_FP_step 45 = .ok (.iload_n 2, 1) := by decide +kernel
theorem d_FP_step_46 : decode cc_FP_step 46 = .ok (.ireturn, 1) := by decide +kernel
theorem d_FP_task_0 : decode cc_FP_task 0 = .ok (.aload_n 0, 1) := by decide +kernel
theorem d_FP_task_1 : decode cc_FP_task 1 = .ok (.iload_n 1, 1) := by decide +kernel
theorem d_FP_task_2 : decode cc_FP_task 2 = .ok (.invokevirtual 160, 3) := by decide +kernel
theorem d_FP_task_5 : decode cc_FP_task 5 = .ok (.astore 4, 2) := by decide +kernel
theorem d_FP_task_7 : decode cc_FP_task 7 = .ok (.iload_n 2, 1) := by decide +kernel
theorem d_FP_task_8 : decode cc_FP_task 8 = .ok (.iconst 0, 1) := by decide +kernel
theorem d_FP_task_9 : decode cc_FP_task 9 = .ok (.aload 4, 2) := by decide +kernel
theorem d_FP_task_11 : decode cc_FP_task 11 = .ok (.invokevirtual 164, 3) := by decide +kernel
theorem d_FP_task_14 : decode cc_FP_task 14 = .ok (.iconst 1, 1) := by decide +kernel
theorem d_FP_task_15 : decode cc_FP_task 15 = .ok (.isub, 1) := by decide +kernel
theorem d_FP_task_16 : decode cc_FP_task 16 = .ok (.invokestatic 44, 3) := by decide +kernel
theorem d_FP_task_19 : decode cc_FP_task 19 = .ok (.ifCond .ne 13, 3) := by decide +kernel
theorem d_FP_task_22 : decode cc_FP_task 22 = .ok (.new 168, 3) := by decide +kernel
theorem d_FP_task_25 : decode cc_FP_task 25 = .ok (.dup, 1) := by decide +kernel
theorem d_FP_task_26 : decode cc_FP_task 26 = .ok (.ldc 170, 2) := by decide +kernel
theorem d_FP_task_28 : decode cc_FP_task 28 = .ok (.invokespecial 172, 3) := by decide +kernel
theorem d_FP_task_31 : decode cc_FP_task 31 = .ok (.athrow, 1) := by decide +kernel
theorem d_FP_task_32 : decode cc_FP_task 32 = .ok (.aload 4, 2) := by decide +kernel
theorem d_FP_task_34 : decode cc_FP_task 34 = .ok (.iload_n 2, 1) := by decide +kernel
theorem d_FP_task_35 : decode cc_FP_task 35 = .ok (.invokevirtual 173, 3) := by decide +kernel
theorem d_FP_task_38 : decode cc_FP_task 38 = .ok (.astore 5, 2) := by decide +kernel
theorem d_FP_task_40 : decode cc_FP_task 40 = .ok (.iload_n 3, 1) := by decide +kernel
theorem d_FP_task_41 : decode cc_FP_task 41 = .ok (.tableswitch 48 0 2 #[27, 36, 42], 27) := by decide +kernel
theorem d_FP_task_68 : decode cc_FP_task 68 = .ok (.aload 5, 2) := by decide +kernel
theorem d_FP_task_70 : decode cc_FP_task 70 = .ok (.getfield 177, 3) := by decide +kernel
theorem d_FP_task_73 : decode cc_FP_task 73 = .ok (.getfield 106, 3) := by decide +kernel
theorem d_FP_task_76 : decode cc_FP_task 76 = .ok (.ireturn, 1) := by decide +kernel
theorem d_FP_task_77 : decode cc_FP_task 77 = .ok (.aload 5, 2) := by decide +kernel
theorem d_FP_task_79 : decode cc_FP_task 79 = .ok (.getfield 181, 3) := by decide +kernel
theorem d_FP_task_82 : decode cc_FP_task 82 = .ok (.ireturn, 1) := by decide +kernel
theorem d_FP_task_83 : decode cc_FP_task 83 = .ok (.aload 5, 2) := by decide +kernel
theorem d_FP_task_85 : decode cc_FP_task 85 = .ok (.getfield 184, 3) := by decide +kernel
theorem d_FP_task_88 : decode cc_FP_task 88 = .ok (.ireturn, 1) := by decide +kernel
theorem d_FP_task_89 : decode cc_FP_task 89 = .ok (.new 48, 3) := by decide +kernel
theorem d_FP_task_92 : decode cc_FP_task 92 = .ok (.dup, 1) := by decide +kernel
theorem d_FP_task_93 : decode cc_FP_task 93 = .ok (.ldc 187, 2) := by decide +kernel
theorem d_FP_task_95 : decode cc_FP_task 95 = .ok (.invokespecial 52, 3) := by decide +kernel
theorem d_FP_task_98 : decode cc_FP_task 98 = .ok (.athrow, 1) := by decide +kernel
theorem d_FP_worker_0 : decode cc_FP_worker 0 = .ok (.aload_n 0, 1) := by decide +kernel
theorem d_FP_worker_1 : decode cc_FP_worker 1 = .ok (.iload_n 1, 1) := by decide +kernel
theorem d_FP_worker_2 : decode cc_FP_worker 2 = .ok (.invokevirtual 160, 3) := by decide +kernel
theorem d_FP_worker_5 : decode cc_FP_worker 5 = .ok (.astore_n 3, 1) := by decide +kernel
theorem d_FP_worker_6 : decode cc_FP_worker 6 = .ok (.iload_n 2, 1) := by decide +kernel
theorem d_FP_worker_7 : decode cc_FP_worker 7 = .ok (.tableswitch 58 0 4 #[33, 38, 43, 48, 53], 33) := by decide +kernel
theorem d_FP_worker_40 : decode cc_FP_worker 40 = .ok (.aload_n 3, 1) := by decide +kernel
theorem d_FP_worker_41 : decode cc_FP_worker 41 = .ok (.invokevirtual 164, 3) := by decide +kernel
theorem d_FP_worker_44 : decode cc_FP_worker 44 = .ok (.ireturn, 1) := by decide +kernel
theorem d_FP_worker_45 : decode cc_FP_worker 45 = .ok (.aload_n 3, 1) := by decide +kernel
theorem d_FP_worker_46 : decode cc_FP_worker 46 = .ok (.getfield 189, 3) := by decide +kernel
theorem d_FP_worker_49 : decode cc_FP_worker 49 = .ok (.ireturn, 1) := by decide +kernel
theorem d_FP_worker_50 : decode cc_FP_worker 50 = .ok (.aload_n 3, 1) := by decide +kernel
theorem d_FP_worker_51 : decode cc_FP_worker 51 = .ok (.getfield 190, 3) := by decide +kernel
theorem d_FP_worker_54 : decode cc_FP_worker 54 = .ok (.ireturn, 1) := by decide +kernel
theorem d_FP_worker_55 : decode cc_FP_worker 55 = .ok (.aload_n 3, 1) := by decide +kernel
theorem d_FP_worker_56 : decode cc_FP_worker 56 = .ok (.getfield 193, 3) := by decide +kernel
theorem d_FP_worker_59 : decode cc_FP_worker 59 = .ok (.ireturn, 1) := by decide +kernel
theorem d_FP_worker_60 : decode cc_FP_worker 60 = .ok (.aload_n 3, 1) := by decide +kernel
theorem d_FP_worker_61 : decode cc_FP_worker 61 = .ok (.getfield 196, 3) := by decide +kernel
theorem d_FP_worker_64 : decode cc_FP_worker 64 = .ok (.ireturn, 1) := by decide +kernel
theorem d_FP_worker_65 : decode cc_FP_worker 65 = .ok (.new 48, 3) := by decide +kernel
theorem d_FP_worker_68 : decode cc_FP_worker 68 = .ok (.dup, 1) := by decide +kernel
theorem d_FP_worker_69 : decode cc_FP_worker 69 = .ok (.ldc 199, 2) := by decide +kernel
theorem d_FP_worker_71 : decode cc_FP_worker 71 = .ok (.invokespecial 52, 3) := by decide +kernel
theorem d_FP_worker_74 : decode cc_FP_worker 74 = .ok (.athrow, 1) := by decide +kernel
theorem d_FP_workerAt_0 : decode cc_FP_workerAt 0 = .ok (.iload_n 1, 1) := by decide +kernel
theorem d_FP_workerAt_1 : decode cc_FP_workerAt 1 = .ok (.iconst 0, 1) := by decide +kernel
theorem d_FP_workerAt_2 : decode cc_FP_workerAt 2 = .ok (.aload_n 0, 1) := by decide +kernel
theorem d_FP_workerAt_3 : decode cc_FP_workerAt 3 = .ok (.getfield 27, 3) := by decide +kernel
theorem d_FP_workerAt_6 : decode cc_FP_workerAt 6 = .ok (.arraylength, 1) := by decide +kernel
theorem d_FP_workerAt_7 : decode cc_FP_workerAt 7 = .ok (.iconst 1, 1) := by decide +kernel
theorem d_FP_workerAt_8 : decode cc_FP_workerAt 8 = .ok (.isub, 1) := by decide +kernel
theorem d_FP_workerAt_9 : decode cc_FP_workerAt 9 = .ok (.invokestatic 44, 3) := by decide +kernel
theorem d_FP_workerAt_12 : decode cc_FP_workerAt 12 = .ok (.ifCond .ne 13, 3) := by decide +kernel
theorem d_FP_workerAt_15 : decode cc_FP_workerAt 15 = .ok (.new 168, 3) := by decide +kernel
theorem d_FP_workerAt_18 : decode cc_FP_workerAt 18 = .ok (.dup, 1) := by decide +kernel
theorem d_FP_workerAt_19 : decode cc_FP_workerAt 19 = .ok (.ldc 223, 2) := by decide +kernel
theorem d_FP_workerAt_21 : decode cc_FP_workerAt 21 = .ok (.invokespecial 172, 3) := by decide +kernel
theorem d_FP_workerAt_24 : decode cc_FP_workerAt 24 = .ok (.athrow, 1) := by decide +kernel
theorem d_FP_workerAt_25 : decode cc_FP_workerAt 25 = .ok (.aload_n 0, 1) := by decide +kernel
theorem d_FP_workerAt_26 : decode cc_FP_workerAt 26 = .ok (.getfield 27, 3) := by decide +kernel
theorem d_FP_workerAt_29 : decode cc_FP_workerAt 29 = .ok (.iload_n 1, 1) := by decide +kernel
theorem d_FP_workerAt_30 : decode cc_FP_workerAt 30 = .ok (.aaload, 1) := by decide +kernel
theorem d_FP_workerAt_31 : decode cc_FP_workerAt 31 = .ok (.areturn, 1) := by decide +kernel
end
section
theorem d_Lw_array_0 : decode cc_Lw_array 0 = .ok (.aload 4, 2) := by decide +kernel
theorem d_Lw_array_2 : decode cc_Lw_array 2 = .ok (.iconst 0, 1) := by decide +kernel
theorem d_Lw_array_3 : decode cc_Lw_array 3 = .ok (.aload_n 0, 1) := by decide +kernel
theorem d_Lw_array_4 : decode cc_Lw_array 4 = .ok (.iload_n 1, 1) := by decide +kernel
theorem d_Lw_array_5 : decode cc_Lw_array 5 = .ok (.iload_n 2, 1) := by decide +kernel
theorem d_Lw_array_6 : decode cc_Lw_array 6 = .ok (.iload_n 3, 1) := by decide +kernel
theorem d_Lw_array_7 : decode cc_Lw_array 7 = .ok (.invokevirtual 7, 3) := by decide +kernel
theorem d_Lw_array_10 : decode cc_Lw_array 10 = .ok (.i2l, 1) := by decide +kernel
theorem d_Lw_array_11 : decode cc_Lw_array 11 = .ok (.lastore, 1) := by decide +kernel
theorem d_Lw_array_12 : decode cc_Lw_array 12 = .ok (.goto 11, 3) := by decide +kernel
theorem d_Lw_array_15 : decode cc_Lw_array 15 = .ok (.astore 5, 2) := by decide +kernel
theorem d_Lw_array_17 : decode cc_Lw_array 17 = .ok (.iconst 1, 1) := by decide +kernel
theorem d_Lw_array_18 : decode cc_Lw_array 18 = .ok (.ireturn, 1) := by decide +kernel
theorem d_Lw_array_19 : decode cc_Lw_array 19 = .ok (.astore 5, 2) := by decide +kernel
theorem d_Lw_array_21 : decode cc_Lw_array 21 = .ok (.iconst 2, 1) := by decide +kernel
theorem d_Lw_array_22 : decode cc_Lw_array 22 = .ok (.ireturn, 1) := by decide +kernel
theorem d_Lw_array_23 : decode cc_Lw_array 23 = .ok (.iconst 0, 1) := by decide +kernel
theorem d_Lw_array_24 : decode cc_Lw_array 24 = .ok (.ireturn, 1) := by decide +kernel
theorem d_Lw_begin_0 : decode cc_Lw_begin 0 = .ok (.aload 6, 2) := by decide +kernel
theorem d_Lw_begin_2 : decode cc_Lw_begin 2 = .ok (.iconst 0, 1) := by decide +kernel
theorem d_Lw_begin_3 : decode cc_Lw_begin 3 = .ok (.aload_n 0, 1) := by decide +kernel
theorem d_Lw_begin_4 : decode cc_Lw_begin 4 = .ok (.iload_n 1, 1) := by decide +kernel
theorem d_Lw_begin_5 : decode cc_Lw_begin 5 = .ok (.iload_n 2, 1) := by decide +kernel
theorem d_Lw_begin_6 : decode cc_Lw_begin 6 = .ok (.iload_n 3, 1) := by decide +kernel
theorem d_Lw_begin_7 : decode cc_Lw_begin 7 = .ok (.iload 4, 2) := by decide +kernel
theorem d_Lw_begin_9 : decode cc_Lw_begin 9 = .ok (.iload 5, 2) := by decide +kernel
theorem d_Lw_begin_11 : decode cc_Lw_begin 11 = .ok (.invokevirtual 27, 3) := by decide +kernel
theorem d_Lw_begin_14 : decode cc_Lw_begin 14 = .ok (.i2l, 1) := by decide +kernel
theorem d_Lw_begin_15 : decode cc_Lw_begin 15 = .ok (.lastore, 1) := by decide +kernel
theorem d_Lw_begin_16 : decode cc_Lw_begin 16 = .ok (.goto 15, 3) := by decide +kernel
theorem d_Lw_begin_19 : decode cc_Lw_begin 19 = .ok (.astore 7, 2) := by decide +kernel
theorem d_Lw_begin_21 : decode cc_Lw_begin 21 = .ok (.iconst 1, 1) := by decide +kernel
theorem d_Lw_begin_22 : decode cc_Lw_begin 22 = .ok (.ireturn, 1) := by decide +kernel
theorem d_Lw_begin_23 : decode cc_Lw_begin 23 = .ok (.astore 7, 2) := by decide +kernel
theorem d_Lw_begin_25 : decode cc_Lw_begin 25 = .ok (.iconst 2, 1) := by decide +kernel
theorem d_Lw_begin_26 : decode cc_Lw_begin 26 = .ok (.ireturn, 1) := by decide +kernel
theorem d_Lw_begin_27 : decode cc_Lw_begin 27 = .ok (.astore 7, 2) := by decide +kernel
theorem d_Lw_begin_29 : decode cc_Lw_begin 29 = .ok (.iconst 3, 1) := by decide +kernel
theorem d_Lw_begin_30 : decode cc_Lw_begin 30 = .ok (.ireturn, 1) := by decide +kernel
theorem d_Lw_begin_31 : decode cc_Lw_begin 31 = .ok (.iconst 0, 1) := by decide +kernel
theorem d_Lw_begin_32 : decode cc_Lw_begin 32 = .ok (.ireturn, 1) := by decide +kernel
theorem d_Lw_cancel_0 : decode cc_Lw_cancel 0 = .ok (.aload_n 2, 1) := by decide +kernel
theorem d_Lw_cancel_1 : decode cc_Lw_cancel 1 = .ok (.iconst 0, 1) := by decide +kernel
theorem d_Lw_cancel_2 : decode cc_Lw_cancel 2 = .ok (.aload_n 0, 1) := by decide +kernel
theorem d_Lw_cancel_3 : decode cc_Lw_cancel 3 = .ok (.iload_n 1, 1) := by decide +kernel
theorem d_Lw_cancel_4 : decode cc_Lw_cancel 4 = .ok (.invokevirtual 46, 3) := by decide +kernel
theorem d_Lw_cancel_7 : decode cc_Lw_cancel 7 = .ok (.i2l, 1) := by decide +kernel
theorem d_Lw_cancel_8 : decode cc_Lw_cancel 8 = .ok (.lastore, 1) := by decide +kernel
theorem d_Lw_cancel_9 : decode cc_Lw_cancel 9 = .ok (.goto 9, 3) := by decide +kernel
theorem d_Lw_cancel_12 : decode cc_Lw_cancel 12 = .ok (.astore_n 3, 1) := by decide +kernel
theorem d_Lw_cancel_13 : decode cc_Lw_cancel 13 = .ok (.iconst 1, 1) := by decide +kernel
theorem d_Lw_cancel_14 : decode cc_Lw_cancel 14 = .ok (.ireturn, 1) := by decide +kernel
theorem d_Lw_cancel_15 : decode cc_Lw_cancel 15 = .ok (.astore_n 3, 1) := by decide +kernel
theorem d_Lw_cancel_16 : decode cc_Lw_cancel 16 = .ok (.iconst 2, 1) := by decide +kernel
theorem d_Lw_cancel_17 : decode cc_Lw_cancel 17 = .ok (.ireturn, 1) := by decide +kernel
theorem d_Lw_cancel_18 : decode cc_Lw_cancel 18 = .ok (.iconst 0, 1) := by decide +kernel
theorem d_Lw_cancel_19 : decode cc_Lw_cancel 19 = .ok (.ireturn, 1) := by decide +kernel
theorem d_Lw_cell_0 : decode cc_Lw_cell 0 = .ok (.iload_n 1, 1) := by decide +kernel
theorem d_Lw_cell_1 : decode cc_Lw_cell 1 = .ok (.aload_n 0, 1) := by decide +kernel
theorem d_Lw_cell_2 : decode cc_Lw_cell 2 = .ok (.arraylength, 1) := by decide +kernel
theorem d_Lw_cell_3 : decode cc_Lw_cell 3 = .ok (.if_icmp .ge 9, 3) := by decide +kernel
theorem d_Lw_cell_6 : decode cc_Lw_cell 6 = .ok (.aload_n 0, 1) := by decide +kernel
theorem d_Lw_cell_7 : decode cc_Lw_cell 7 = .ok (.iload_n 1, 1) := by decide +kernel
theorem d_Lw_cell_8 : decode cc_Lw_cell 8 = .ok (.iaload, 1) := by decide +kernel
theorem d_Lw_cell_9 : decode cc_Lw_cell 9 = .ok (.goto 4, 3) := by decide +kernel
theorem d_Lw_cell_12 : decode cc_Lw_cell 12 = .ok (.iconst 0, 1) := by decide +kernel
theorem d_Lw_cell_13 : decode cc_Lw_cell 13 = .ok (.ireturn, 1) := by decide +kernel
theorem d_Lw_count_0 : decode cc_Lw_count 0 = .ok (.aload_n 2, 1) := by decide +kernel
theorem d_Lw_count_1 : decode cc_Lw_count 1 = .ok (.iconst 0, 1) := by decide +kernel
theorem d_Lw_count_2 : decode cc_Lw_count 2 = .ok (.aload_n 0, 1) := by decide +kernel
theorem d_Lw_count_3 : decode cc_Lw_count 3 = .ok (.iload_n 1, 1) := by decide +kernel
theorem d_Lw_count_4 : decode cc_Lw_count 4 = .ok (.invokevirtual 62, 3) := by decide +kernel
theorem d_Lw_count_7 : decode cc_Lw_count 7 = .ok (.i2l, 1) := by decide +kernel
theorem d_Lw_count_8 : decode cc_Lw_count 8 = .ok (.lastore, 1) := by decide +kernel
theorem d_Lw_count_9 : decode cc_Lw_count 9 = .ok (.goto 6, 3) := by decide +kernel
theorem d_Lw_count_12 : decode cc_Lw_count 12 = .ok (.astore_n 3, 1) := by decide +kernel
theorem d_Lw_count_13 : decode cc_Lw_count 13 = .ok (.iconst 1, 1) := by decide +kernel
theorem d_Lw_count_14 : decode cc_Lw_count 14 = .ok (.ireturn, 1) := by decide +kernel
theorem d_Lw_count_15 : decode cc_Lw_count 15 = .ok (.iconst 0, 1) := by decide +kernel
theorem d_Lw_count_16 : decode cc_Lw_count 16 = .ok (.ireturn, 1) := by decide +kernel
theorem d_Lw_get_0 : decode cc_Lw_get 0 = .ok (.aload_n 3, 1) := by decide +kernel
theorem d_Lw_get_1 : decode cc_Lw_get 1 = .ok (.iconst 0, 1) := by decide +kernel
theorem d_Lw_get_2 : decode cc_Lw_get 2 = .ok (.aload_n 0, 1) := by decide +kernel
theorem d_Lw_get_3 : decode cc_Lw_get 3 = .ok (.iload_n 1, 1) := by decide +kernel
theorem d_Lw_get_4 : decode cc_Lw_get 4 = .ok (.iload_n 2, 1) := by decide +kernel
theorem d_Lw_get_5 : decode cc_Lw_get 5 = .ok (.invokevirtual 23, 3) := by decide +kernel
theorem d_Lw_get_8 : decode cc_Lw_get 8 = .ok (.lastore, 1) := by decide +kernel
theorem d_Lw_get_9 : decode cc_Lw_get 9 = .ok (.goto 7, 3) := by decide +kernel
theorem d_Lw_get_12 : decode cc_Lw_get 12 = .ok (.astore 4, 2) := by decide +kernel
theorem d_Lw_get_14 : decode cc_Lw_get 14 = .ok (.iconst 1, 1) := by decide +kernel
theorem d_Lw_get_15 : decode cc_Lw_get 15 = .ok (.ireturn, 1) := by decide +kernel
theorem d_Lw_get_16 : decode cc_Lw_get 16 = .ok (.iconst 0, 1) := by decide +kernel
theorem d_Lw_get_17 : decode cc_Lw_get 17 = .ok (.ireturn, 1) := by decide +kernel
theorem d_Lw_grain_0 : decode cc_Lw_grain 0 = .ok (.aload_n 2, 1) := by decide +kernel
theorem d_Lw_grain_1 : decode cc_Lw_grain 1 = .ok (.iconst 0, 1) := by decide +kernel
theorem d_Lw_grain_2 : decode cc_Lw_grain 2 = .ok (.aload_n 0, 1) := by decide +kernel
theorem d_Lw_grain_3 : decode cc_Lw_grain 3 = .ok (.iload_n 1, 1) := by decide +kernel
theorem d_Lw_grain_4 : decode cc_Lw_grain 4 = .ok (.invokevirtual 59, 3) := by decide +kernel
theorem d_Lw_grain_7 : decode cc_Lw_grain 7 = .ok (.i2l, 1) := by decide +kernel
theorem d_Lw_grain_8 : decode cc_Lw_grain 8 = .ok (.lastore, 1) := by decide +kernel
theorem d_Lw_grain_9 : decode cc_Lw_grain 9 = .ok (.goto 6, 3) := by decide +kernel
theorem d_Lw_grain_12 : decode cc_Lw_grain 12 = .ok (.astore_n 3, 1) := by decide +kernel
theorem d_Lw_grain_13 : decode cc_Lw_grain 13 = .ok (.iconst 1, 1) := by decide +kernel
theorem d_Lw_grain_14 : decode cc_Lw_grain 14 = .ok (.ireturn, 1) := by decide +kernel
theorem d_Lw_grain_15 : decode cc_Lw_grain 15 = .ok (.iconst 0, 1) := by decide +kernel
theorem d_Lw_grain_16 : decode cc_Lw_grain 16 = .ok (.ireturn, 1) := by decide +kernel
theorem d_Lw_job_0 : decode cc_Lw_job 0 = .ok (.aload_n 3, 1) := by decide +kernel
theorem d_Lw_job_1 : decode cc_Lw_job 1 = .ok (.iconst 0, 1) := by decide +kernel
theorem d_Lw_job_2 : decode cc_Lw_job 2 = .ok (.aload_n 0, 1) := by decide +kernel
theorem d_Lw_job_3 : decode cc_Lw_job 3 = .ok (.iload_n 1, 1) := by decide +kernel
theorem d_Lw_job_4 : decode cc_Lw_job 4 = .ok (.iload_n 2, 1) := by decide +kernel
theorem d_Lw_job_5 : decode cc_Lw_job 5 = .ok (.invokevirtual 49, 3) := by decide +kernel
theorem d_Lw_job_8 : decode cc_Lw_job 8 = .ok (.i2l, 1) := by decide +kernel
theorem d_Lw_job_9 : decode cc_Lw_job 9 = .ok (.lastore, 1) := by decide +kernel
theorem d_Lw_job_10 : decode cc_Lw_job 10 = .ok (.goto 11, 3) := by decide +kernel
theorem d_Lw_job_13 : decode cc_Lw_job 13 = .ok (.astore 4, 2) := by decide +kernel
theorem d_Lw_job_15 : decode cc_Lw_job 15 = .ok (.iconst 1, 1) := by decide +kernel
theorem d_Lw_job_16 : decode cc_Lw_job 16 = .ok (.ireturn, 1) := by decide +kernel
theorem d_Lw_job_17 : decode cc_Lw_job 17 = .ok (.astore 4, 2) := by decide +kernel
theorem d_Lw_job_19 : decode cc_Lw_job 19 = .ok (.iconst 2, 1) := by decide +kernel
theorem d_Lw_job_20 : decode cc_Lw_job 20 = .ok (.ireturn, 1) := by decide +kernel
theorem d_Lw_job_21 : decode cc_Lw_job 21 = .ok (.iconst 0, 1) := by decide +kernel
theorem d_Lw_job_22 : decode cc_Lw_job 22 = .ok (.ireturn, 1) := by decide +kernel
theorem d_Lw_join_0 : decode cc_Lw_join 0 = .ok (.aload_n 2, 1) := by decide +kernel
theorem d_Lw_join_1 : decode cc_Lw_join 1 = .ok (.iconst 0, 1) := by decide +kernel
theorem d_Lw_join_2 : decode cc_Lw_join 2 = .ok (.aload_n 0, 1) := by decide +kernel
theorem d_Lw_join_3 : decode cc_Lw_join 3 = .ok (.iload_n 1, 1) := by decide +kernel
theorem d_Lw_join_4 : decode cc_Lw_join 4 = .ok (.invokevirtual 35, 3) := by decide +kernel
theorem d_Lw_join_7 : decode cc_Lw_join 7 = .ok (.i2l, 1) := by decide +kernel
theorem d_Lw_join_8 : decode cc_Lw_join 8 = .ok (.lastore, 1) := by decide +kernel
theorem d_Lw_join_9 : decode cc_Lw_join 9 = .ok (.goto 9, 3) := by decide +kernel
theorem d_Lw_join_12 : decode cc_Lw_join 12 = .ok (.astore_n 3, 1) := by decide +kernel
theorem d_Lw_join_13 : decode cc_Lw_join 13 = .ok (.iconst 1, 1) := by decide +kernel
theorem d_Lw_join_14 : decode cc_Lw_join 14 = .ok (.ireturn, 1) := by decide +kernel
theorem d_Lw_join_15 : decode cc_Lw_join 15 = .ok (.astore_n 3, 1) := by decide +kernel
theorem d_Lw_join_16 : decode cc_Lw_join 16 = .ok (.iconst 2, 1) := by decide +kernel
theorem d_Lw_join_17 : decode cc_Lw_join 17 = .ok (.ireturn, 1) := by decide +kernel
theorem d_Lw_join_18 : decode cc_Lw_join 18 = .ok (.iconst 0, 1) := by decide +kernel
theorem d_Lw_join_19 : decode cc_Lw_join 19 = .ok (.ireturn, 1) := by decide +kernel
theorem d_Lw_law_0 : decode cc_Lw_law 0 = .ok (.new 8, 3) := by decide +kernel
theorem d_Lw_law_3 : decode cc_Lw_law 3 = .ok (.dup, 1) := by decide +kernel
theorem d_Lw_law_4 : decode cc_Lw_law 4 = .ok (.aload_n 0, 1) := by decide +kernel
theorem d_Lw_law_5 : decode cc_Lw_law 5 = .ok (.iconst 0, 1) := by decide +kernel
theorem d_Lw_law_6 : decode cc_Lw_law 6 = .ok (.invokestatic 65, 3) := by decide +kernel
theorem d_Lw_law_9 : decode cc_Lw_law 9 = .ok (.invokespecial 71, 3) := by decide +kernel
theorem d_Lw_law_12 : decode cc_Lw_law 12 = .ok (.astore_n 1, 1) := by decide +kernel
theorem d_Lw_law_13 : decode cc_Lw_law 13 = .ok (.new 74, 3) := by decide +kernel
theorem d_Lw_law_16 : decode cc_Lw_law 16 = .ok (.dup, 1) := by decide +kernel
theorem d_Lw_law_17 : decode cc_Lw_law 17 = .ok (.aload_n 0, 1) := by decide +kernel
theorem d_Lw_law_18 : decode cc_Lw_law 18 = .ok (.iconst 0, 1) := by decide +kernel
theorem d_Lw_law_19 : decode cc_Lw_law 19 = .ok (.invokestatic 65, 3) := by decide +kernel
theorem d_Lw_law_22 : decode cc_Lw_law 22 = .ok (.invokespecial 76, 3) := by decide +kernel
theorem d_Lw_law_25 : decode cc_Lw_law 25 = .ok (.astore_n 2, 1) := by decide +kernel
theorem d_Lw_law_26 : decode cc_Lw_law 26 = .ok (.iconst 1, 1) := by decide +kernel
theorem d_Lw_law_27 : decode cc_Lw_law 27 = .ok (.newarray .long, 2) := by decide +kernel
theorem d_Lw_law_29 : decode cc_Lw_law 29 = .ok (.astore_n 3, 1) := by decide +kernel
theorem d_Lw_law_30 : decode cc_Lw_law 30 = .ok (.iconst 1, 1) := by decide +kernel
theorem d_Lw_law_31 : decode cc_Lw_law 31 = .ok (.istore 4, 2) := by decide +kernel
theorem d_Lw_law_33 : decode cc_Lw_law 33 = .ok (.iload 4, 2) := by decide +kernel
theorem d_Lw_law_35 : decode cc_Lw_law 35 = .ok (.aload_n 0, 1) := by decide +kernel
theorem d_Lw_law_36 : decode cc_Lw_law 36 = .ok (.arraylength, 1) := by decide +kernel
theorem d_Lw_law_37 : decode cc_Lw_law 37 = .ok (.bipush 6, 2) := by decide +kernel
theorem d_Lw_law_39 : decode cc_Lw_law 39 = .ok (.isub, 1) := by decide +kernel
theorem d_Lw_law_40 : decode cc_Lw_law 40 = .ok (.if_icmp .gt 995, 3) := by decide +kernel
theorem d_Lw_law_43 : decode cc_Lw_law 43 = .ok (.aload_n 0, 1) := by decide +kernel
theorem d_Lw_law_44 : decode cc_Lw_law 44 = .ok (.iload 4, 2) := by decide +kernel
theorem d_Lw_law_46 : decode cc_Lw_law 46 = .ok (.iaload, 1) := by decide +kernel
theorem d_Lw_law_47 : decode cc_Lw_law 47 = .ok (.bipush 15, 2) := by decide +kernel
theorem d_Lw_law_49 : decode cc_Lw_law 49 = .ok (.iand, 1) := by decide +kernel
theorem d_Lw_law_50 : decode cc_Lw_law 50 = .ok (.tableswitch 979 0 12 #[66, 146, 257, 324, 428, 484, 540, 595, 651, 719, 799, 867, 923], 66) := by decide +kernel
theorem d_Lw_law_116 : decode cc_Lw_law 116 = .ok (.aload_n 1, 1) := by decide +kernel
theorem d_Lw_law_117 : decode cc_Lw_law 117 = .ok (.aload_n 0, 1) := by decide +kernel
theorem d_Lw_law_118 : decode cc_Lw_law 118 = .ok (.iload 4, 2) := by decide +kernel
theorem d_Lw_law_120 : decode cc_Lw_law 120 = .ok (.iconst 1, 1) := by decide +kernel
theorem d_Lw_law_121 : decode cc_Lw_law 121 = .ok (.iadd, 1) := by decide +kernel
theorem d_Lw_law_122 : decode cc_Lw_law 122 = .ok (.iaload, 1) := by decide +kernel
theorem d_Lw_law_123 : decode cc_Lw_law 123 = .ok (.aload_n 0, 1) := by decide +kernel
theorem d_Lw_law_124 : decode cc_Lw_law 124 = .ok (.iload 4, 2) := by decide +kernel
theorem d_Lw_law_126 : decode cc_Lw_law 126 = .ok (.iconst 2, 1) := by decide +kernel
theorem d_Lw_law_127 : decode cc_Lw_law 127 = .ok (.iadd, 1) := by decide +kernel
theorem d_Lw_law_128 : decode cc_Lw_law 128 = .ok (.iaload, 1) := by decide +kernel
theorem d_Lw_law_129 : decode cc_Lw_law 129 = .ok (.aload_n 0, 1) := by decide +kernel
theorem d_Lw_law_130 : decode cc_Lw_law 130 = .ok (.iload 4, 2) := by decide +kernel
theorem d_Lw_law_132 : decode cc_Lw_law 132 = .ok (.iconst 3, 1) := by decide +kernel
theorem d_Lw_law_133 : decode cc_Lw_law 133 = .ok (.iadd, 1) := by decide +kernel
theorem d_Lw_law_134 : decode cc_Lw_law 134 = .ok (.iaload, 1) := by decide +kernel
theorem d_Lw_law_135 : decode cc_Lw_law 135 = .ok (.aload_n 3, 1) := by decide +kernel
theorem d_Lw_law_136 : decode cc_Lw_law 136 = .ok (.invokestatic 77, 3) := by decide +kernel
theorem d_Lw_law_139 : decode cc_Lw_law 139 = .ok (.istore 5, 2) := by decide +kernel
theorem d_Lw_law_141 : decode cc_Lw_law 141 = .ok (.aload_n 2, 1) := by decide +kernel
theorem d_Lw_law_142 : decode cc_Lw_law 142 = .ok (.aload_n 0, 1) := by decide +kernel
theorem d_Lw_law_143 : decode cc_Lw_law 143 = .ok (.iload 4, 2) := by decide +kernel
theorem d_Lw_law_145 : decode cc_Lw_law 145 = .ok (.iconst 1, 1) := by decide +kernel
theorem d_Lw_law_146 : decode cc_Lw_law 146 = .ok (.iadd, 1) := by decide +kernel
theorem d_Lw_law_147 : decode cc_Lw_law 147 = .ok (.iaload, 1) := by decide +kernel
theorem d_Lw_law_148 : decode cc_Lw_law 148 = .ok (.aload_n 0, 1) := by decide +kernel
theorem d_Lw_law_149 : decode cc_Lw_law 149 = .ok (.iload 4, 2) := by decide +kernel
theorem d_Lw_law_151 : decode cc_Lw_law 151 = .ok (.iconst 2, 1) := by decide +kernel
theorem d_Lw_law_152 : decode cc_Lw_law 152 = .ok (.iadd, 1) := by decide +kernel
theorem d_Lw_law_153 : decode cc_Lw_law 153 = .ok (.iaload, 1) := by decide +kernel
theorem d_Lw_law_154 : decode cc_Lw_law 154 = .ok (.aload_n 0, 1) := by decide +kernel
theorem d_Lw_law_155 : decode cc_Lw_law 155 = .ok (.iload 4, 2) := by decide +kernel
theorem d_Lw_law_157 : decode cc_Lw_law 157 = .ok (.iconst 3, 1) := by decide +kernel
theorem d_Lw_law_158 : decode cc_Lw_law 158 = .ok (.iadd, 1) := by decide +kernel
theorem d_Lw_law_159 : decode cc_Lw_law 159 = .ok (.iaload, 1) := by decide +kernel
theorem d_Lw_law_160 : decode cc_Lw_law 160 = .ok (.invokevirtual 80, 3) := by decide +kernel
theorem d_Lw_law_163 : decode cc_Lw_law 163 = .ok (.istore 6, 2) := by decide +kernel
theorem d_Lw_law_165 : decode cc_Lw_law 165 = .ok (.aload_n 2, 1) := by decide +kernel
theorem d_Lw_law_166 : decode cc_Lw_law 166 = .ok (.invokevirtual 81, 3) := by decide +kernel
theorem d_Lw_law_169 : decode cc_Lw_law 169 = .ok (.iload 5, 2) := by decide +kernel
theorem d_Lw_law_171 : decode cc_Lw_law 171 = .ok (.if_icmp .eq 5, 3) := by decide +kernel
theorem d_Lw_law_174 : decode cc_Lw_law 174 = .ok (.iconst 0, 1) := by decide +kernel
theorem d_Lw_law_175 : decode cc_Lw_law 175 = .ok (.ireturn, 1) := by decide +kernel
theorem d_Lw_law_176 : decode cc_Lw_law 176 = .ok (.iload 5, 2) := by decide +kernel
theorem d_Lw_law_178 : decode cc_Lw_law 178 = .ok (.ifCond .ne 15, 3) := by decide +kernel
theorem d_Lw_law_181 : decode cc_Lw_law 181 = .ok (.aload_n 3, 1) := by decide +kernel
theorem d_Lw_law_182 : decode cc_Lw_law 182 = .ok (.iconst 0, 1) := by decide +kernel
theorem d_Lw_law_183 : decode cc_Lw_law 183 = .ok (.laload, 1) := by decide +kernel
theorem d_Lw_law_184 : decode cc_Lw_law 184 = .ok (.iload 6, 2) := by decide +kernel
theorem d_Lw_law_186 : decode cc_Lw_law 186 = .ok (.i2l, 1) := by decide +kernel
theorem d_Lw_law_187 : decode cc_Lw_law 187 = .ok (.lcmp, 1) := by decide +kernel
theorem d_Lw_law_188 : decode cc_Lw_law 188 = .ok (.ifCond .eq 5, 3) := by decide +kernel
theorem d_Lw_law_191 : decode cc_Lw_law 191 = .ok (.iconst 0, 1) := by decide +kernel
theorem d_Lw_law_192 : decode cc_Lw_law 192 = .ok (.ireturn, 1) := by decide +kernel
theorem d_Lw_law_193 : decode cc_Lw_law 193 = .ok (.goto 836, 3) := by decide +kernel
theorem d_Lw_law_196 : decode cc_Lw_law 196 = .ok (.aload_n 1, 1) := by decide +kernel
theorem d_Lw_law_197 : decode cc_Lw_law 197 = .ok (.aload_n 0, 1) := by decide +kernel
theorem d_Lw_law_198 : decode cc_Lw_law 198 = .ok (.iload 4, 2) := by decide +kernel
theorem d_Lw_law_200 : decode cc_Lw_law 200 = .ok (.iconst 1, 1) := by decide +kernel
theorem d_Lw_law_201 : decode cc_Lw_law 201 = .ok (.iadd, 1) := by decide +kernel
theorem d_Lw_law_202 : decode cc_Lw_law 202 = .ok (.iaload, 1) := by decide +kernel
theorem d_Lw_law_203 : decode cc_Lw_law 203 = .ok (.aload_n 0, 1) := by decide +kernel
theorem d_Lw_law_204 : decode cc_Lw_law 204 = .ok (.iload 4, 2) := by decide +kernel
theorem d_Lw_law_206 : decode cc_Lw_law 206 = .ok (.iconst 2, 1) := by decide +kernel
theorem d_Lw_law_207 : decode cc_Lw_law 207 = .ok (.iadd, 1) := by decide +kernel
theorem d_Lw_law_208 : decode cc_Lw_law 208 = .ok (.iaload, 1) := by decide +kernel
theorem d_Lw_law_209 : decode cc_Lw_law 209 = .ok (.aload_n 0, 1) := by decide +kernel
theorem d_Lw_law_210 : decode cc_Lw_law 210 = .ok (.iload 4, 2) := by decide +kernel
theorem d_Lw_law_212 : decode cc_Lw_law 212 = .ok (.iconst 3, 1) := by decide +kernel
theorem d_Lw_law_213 : decode cc_Lw_law 213 = .ok (.iadd, 1) := by decide +kernel
theorem d_Lw_law_214 : decode cc_Lw_law 214 = .ok (.iaload, 1) := by decide +kernel
theorem d_Lw_law_215 : decode cc_Lw_law 215 = .ok (.i2l, 1) := by decide +kernel
theorem d_Lw_law_216 : decode cc_Lw_law 216 = .ok (.bipush 32, 2) := by decide +kernel
theorem d_Lw_law_218 : decode cc_Lw_law 218 = .ok (.lshl, 1) := by decide +kernel
theorem d_Lw_law_219 : decode cc_Lw_law 219 = .ok (.aload_n 0, 1) := by decide +kernel
theorem d_Lw_law_220 : decode cc_Lw_law 220 = .ok (.iload 4, 2) := by decide +kernel
theorem d_Lw_law_222 : decode cc_Lw_law 222 = .ok (.iconst 4, 1) := by decide +kernel
theorem d_Lw_law_223 : decode cc_Lw_law 223 = .ok (.iadd, 1) := by decide +kernel
theorem d_Lw_law_224 : decode cc_Lw_law 224 = .ok (.iaload, 1) := by decide +kernel
theorem d_Lw_law_225 : decode cc_Lw_law 225 = .ok (.i2l, 1) := by decide +kernel
theorem d_Lw_law_226 : decode cc_Lw_law 226 = .ok (.ldc2_w 85, 3) := by decide +kernel
theorem d_Lw_law_229 : decode cc_Lw_law 229 = .ok (.land, 1) := by decide +kernel
theorem d_Lw_law_230 : decode cc_Lw_law 230 = .ok (.lor, 1) := by decide +kernel
theorem d_Lw_law_231 : decode cc_Lw_law 231 = .ok (.aload_n 3, 1) := by decide +kernel
theorem d_Lw_law_232 : decode cc_Lw_law 232 = .ok (.invokestatic 87, 3) := by decide +kernel
theorem d_Lw_law_235 : decode cc_Lw_law 235 = .ok (.istore 5, 2) := by decide +kernel
theorem d_Lw_law_237 : decode cc_Lw_law 237 = .ok (.aload_n 2, 1) := by decide +kernel
theorem d_Lw_law_238 : decode cc_Lw_law 238 = .ok (.aload_n 0, 1) := by decide +kernel
theorem d_Lw_law_239 : decode cc_Lw_law 239 = .ok (.iload 4, 2) := by decide +kernel
theorem d_Lw_law_241 : decode cc_Lw_law 241 = .ok (.iconst 1, 1) := by decide +kernel
theorem d_Lw_law_242 : decode cc_Lw_law 242 = .ok (.iadd, 1) := by decide +kernel
theorem d_Lw_law_243 : decode cc_Lw_law 243 = .ok (.iaload, 1) := by decide +kernel
theorem d_Lw_law_244 : decode cc_Lw_law 244 = .ok (.aload_n 0, 1) := by decide +kernel
theorem d_Lw_law_245 : decode cc_Lw_law 245 = .ok (.iload 4, 2) := by decide +kernel
theorem d_Lw_law_247 : decode cc_Lw_law 247 = .ok (.iconst 2, 1) := by decide +kernel
theorem d_Lw_law_248 : decode cc_Lw_law 248 = .ok (.iadd, 1) := by decide +kernel
theorem d_Lw_law_249 : decode cc_Lw_law 249 = .ok (.iaload, 1) := by decide +kernel
theorem d_Lw_law_250 : decode cc_Lw_law 250 = .ok (.aload_n 0, 1) := by decide +kernel
theorem d_Lw_law_251 : decode cc_Lw_law 251 = .ok (.iload 4, 2) := by decide +kernel
theorem d_Lw_law_253 : decode cc_Lw_law 253 = .ok (.iconst 3, 1) := by decide +kernel
theorem d_Lw_law_254 : decode cc_Lw_law 254 = .ok (.iadd, 1) := by decide +kernel
theorem d_Lw_law_255 : decode cc_Lw_law 255 = .ok (.iaload, 1) := by decide +kernel
theorem d_Lw_law_256 : decode cc_Lw_law 256 = .ok (.i2l, 1) := by decide +kernel
theorem d_Lw_law_257 : decode cc_Lw_law 257 = .ok (.bipush 32, 2) := by decide +kernel
theorem d_Lw_law_259 : decode cc_Lw_law 259 = .ok (.lshl, 1) := by decide +kernel
theorem d_Lw_law_260 : decode cc_Lw_law 260 = .ok (.aload_n 0, 1) := by decide +kernel
theorem d_Lw_law_261 : decode cc_Lw_law 261 = .ok (.iload 4, 2) := by decide +kernel
theorem d_Lw_law_263 : decode cc_Lw_law 263 = .ok (.iconst 4, 1) := by decide +kernel
theorem d_Lw_law_264 : decode cc_Lw_law 264 = .ok (.iadd, 1) := by decide +kernel
theorem d_Lw_law_265 : decode cc_Lw_law 265 = .ok (.iaload, 1) := by decide +kernel
theorem d_Lw_law_266 : decode cc_Lw_law 266 = .ok (.i2l, 1) := by decide +kernel
theorem d_Lw_law_267 : decode cc_Lw_law 267 = .ok (.ldc2_w 85, 3) := by decide +kernel
theorem d_Lw_law_270 : decode cc_Lw_law 270 = .ok (.land, 1) := by decide +kernel
theorem d_Lw_law_271 : decode cc_Lw_law 271 = .ok (.lor, 1) := by decide +kernel
theorem d_Lw_law_272 : decode cc_Lw_law 272 = .ok (.invokevirtual 90, 3) := by decide +kernel
theorem d_Lw_law_275 : decode cc_Lw_law 275 = .ok (.lstore 6, 2) := by decide +kernel
theorem d_Lw_law_277 : decode cc_Lw_law 277 = .ok (.aload_n 2, 1) := by decide +kernel
theorem d_Lw_law_278 : decode cc_Lw_law 278 = .ok (.invokevirtual 81, 3) := by decide +kernel
theorem d_Lw_law_281 : decode cc_Lw_law 281 = .ok (.iload 5, 2) := by decide +kernel
theorem d_Lw_law_283 : decode cc_Lw_law 283 = .ok (.if_icmp .eq 5, 3) := by decide +kernel
theorem d_Lw_law_286 : decode cc_Lw_law 286 = .ok (.iconst 0, 1) := by decide +kernel
theorem d_Lw_law_287 : decode cc_Lw_law 287 = .ok (.ireturn, 1) := by decide +kernel
theorem d_Lw_law_288 : decode cc_Lw_law 288 = .ok (.iload 5, 2) := by decide +kernel
theorem d_Lw_law_290 : decode cc_Lw_law 290 = .ok (.ifCond .ne 14, 3) := by decide +kernel
theorem d_Lw_law_293 : decode cc_Lw_law 293 = .ok (.aload_n 3, 1) := by decide +kernel
theorem d_Lw_law_294 : decode cc_Lw_law 294 = .ok (.iconst 0, 1) := by decide +kernel
theorem d_Lw_law_295 : decode cc_Lw_law 295 = .ok (.laload, 1) := by decide +kernel
theorem d_Lw_law_296 : decode cc_Lw_law 296 = .ok (.lload 6, 2) := by decide +kernel
theorem d_Lw_law_298 : decode cc_Lw_law 298 = .ok (.lcmp, 1) := by decide +kernel
theorem d_Lw_law_299 : decode cc_Lw_law 299 = .ok (.ifCond .eq 5, 3) := by decide +kernel
theorem d_Lw_law_302 : decode cc_Lw_law 302 = .ok (.iconst 0, 1) := by decide +kernel
theorem d_Lw_law_303 : decode cc_Lw_law 303 = .ok (.ireturn, 1) := by decide +kernel
theorem d_Lw_law_304 : decode cc_Lw_law 304 = .ok (.goto 725, 3) := by decide +kernel
theorem d_Lw_law_307 : decode cc_Lw_law 307 = .ok (.aload_n 1, 1) := by decide +kernel
theorem d_Lw_law_308 : decode cc_Lw_law 308 = .ok (.aload_n 0, 1) := by decide +kernel
theorem d_Lw_law_309 : decode cc_Lw_law 309 = .ok (.iload 4, 2) := by decide +kernel
theorem d_Lw_law_311 : decode cc_Lw_law 311 = .ok (.iconst 1, 1) := by decide +kernel
theorem d_Lw_law_312 : decode cc_Lw_law 312 = .ok (.iadd, 1) := by decide +kernel
theorem d_Lw_law_313 : decode cc_Lw_law 313 = .ok (.iaload, 1) := by decide +kernel
theorem d_Lw_law_314 : decode cc_Lw_law 314 = .ok (.aload_n 0, 1) := by decide +kernel
theorem d_Lw_law_315 : decode cc_Lw_law 315 = .ok (.iload 4, 2) := by decide +kernel
theorem d_Lw_law_317 : decode cc_Lw_law 317 = .ok (.iconst 2, 1) := by decide +kernel
theorem d_Lw_law_318 : decode cc_Lw_law 318 = .ok (.iadd, 1) := by decide +kernel
theorem d_Lw_law_319 : decode cc_Lw_law 319 = .ok (.iaload, 1) := by decide +kernel
theorem d_Lw_law_320 : decode cc_Lw_law 320 = .ok (.aload_n 3, 1) := by decide +kernel
theorem d_Lw_law_321 : decode cc_Lw_law 321 = .ok (.invokestatic 91, 3) := by decide +kernel
theorem d_Lw_law_324 : decode cc_Lw_law 324 = .ok (.istore 5, 2) := by decide +kernel
theorem d_Lw_law_326 : decode cc_Lw_law 326 = .ok (.aload_n 2, 1) := by decide +kernel
theorem d_Lw_law_327 : decode cc_Lw_law 327 = .ok (.aload_n 0, 1) := by decide +kernel
theorem d_Lw_law_328 : decode cc_Lw_law 328 = .ok (.iload 4, 2) := by decide +kernel
theorem d_Lw_law_330 : decode cc_Lw_law 330 = .ok (.iconst 1, 1) := by decide +kernel
theorem d_Lw_law_331 : decode cc_Lw_law 331 = .ok (.iadd, 1) := by decide +kernel
theorem d_Lw_law_332 : decode cc_Lw_law 332 = .ok (.iaload, 1) := by decide +kernel
theorem d_Lw_law_333 : decode cc_Lw_law 333 = .ok (.aload_n 0, 1) := by decide +kernel
theorem d_Lw_law_334 : decode cc_Lw_law 334 = .ok (.iload 4, 2) := by decide +kernel
theorem d_Lw_law_336 : decode cc_Lw_law 336 = .ok (.iconst 2, 1) := by decide +kernel
theorem d_Lw_law_337 : decode cc_Lw_law 337 = .ok (.iadd, 1) := by decide +kernel
theorem d_Lw_law_338 : decode cc_Lw_law 338 = .ok (.iaload, 1) := by decide +kernel
theorem d_Lw_law_339 : decode cc_Lw_law 339 = .ok (.invokevirtual 94, 3) := by decide +kernel
theorem d_Lw_law_342 : decode cc_Lw_law 342 = .ok (.lstore 6, 2) := by decide +kernel
theorem d_Lw_law_344 : decode cc_Lw_law 344 = .ok (.aload_n 2, 1) := by decide +kernel
theorem d_Lw_law_345 : decode cc_Lw_law 345 = .ok (.invokevirtual 81, 3) := by decide +kernel
theorem d_Lw_law_348 : decode cc_Lw_law 348 = .ok (.iload 5, 2) := by decide +kernel
theorem d_Lw_law_350 : decode cc_Lw_law 350 = .ok (.if_icmp .eq 5, 3) := by decide +kernel
theorem d_Lw_law_353 : decode cc_Lw_law 353 = .ok (.iconst 0, 1) := by decide +kernel
theorem d_Lw_law_354 : decode cc_Lw_law 354 = .ok (.ireturn, 1) := by decide +kernel
theorem d_Lw_law_355 : decode cc_Lw_law 355 = .ok (.iload 5, 2) := by decide +kernel
theorem d_Lw_law_357 : decode cc_Lw_law 357 = .ok (.ifCond .ne 14, 3) := by decide +kernel
theorem d_Lw_law_360 : decode cc_Lw_law 360 = .ok (.aload_n 3, 1) := by decide +kernel
theorem d_Lw_law_361 : decode cc_Lw_law 361 = .ok (.iconst 0, 1) := by decide +kernel
theorem d_Lw_law_362 : decode cc_Lw_law 362 = .ok (.laload, 1) := by decide +kernel
theorem d_Lw_law_363 : decode cc_Lw_law 363 = .ok (.lload 6, 2) := by decide +kernel
theorem d_Lw_law_365 : decode cc_Lw_law 365 = .ok (.lcmp, 1) := by decide +kernel
theorem d_Lw_law_366 : decode cc_Lw_law 366 = .ok (.ifCond .eq 5, 3) := by decide +kernel
theorem d_Lw_law_369 : decode cc_Lw_law 369 = .ok (.iconst 0, 1) := by decide +kernel
theorem d_Lw_law_370 : decode cc_Lw_law 370 = .ok (.ireturn, 1) := by decide +kernel
theorem d_Lw_law_371 : decode cc_Lw_law 371 = .ok (.goto 658, 3) := by decide +kernel
theorem d_Lw_law_374 : decode cc_Lw_law 374 = .ok (.aload_n 1, 1) := by decide +kernel
theorem d_Lw_law_375 : decode cc_Lw_law 375 = .ok (.aload_n 0, 1) := by decide +kernel
theorem d_Lw_law_376 : decode cc_Lw_law 376 = .ok (.iload 4, 2) := by decide +kernel
theorem d_Lw_law_378 : decode cc_Lw_law 378 = .ok (.iconst 1, 1) := by decide +kernel
theorem d_Lw_law_379 : decode cc_Lw_law 379 = .ok (.iadd, 1) := by decide +kernel
theorem d_Lw_law_380 : decode cc_Lw_law 380 = .ok (.iaload, 1) := by decide +kernel
theorem d_Lw_law_381 : decode cc_Lw_law 381 = .ok (.aload_n 0, 1) := by decide +kernel
theorem d_Lw_law_382 : decode cc_Lw_law 382 = .ok (.iload 4, 2) := by decide +kernel
theorem d_Lw_law_384 : decode cc_Lw_law 384 = .ok (.iconst 2, 1) := by decide +kernel
theorem d_Lw_law_385 : decode cc_Lw_law 385 = .ok (.iadd, 1) := by decide +kernel
theorem d_Lw_law_386 : decode cc_Lw_law 386 = .ok (.iaload, 1) := by decide +kernel
theorem d_Lw_law_387 : decode cc_Lw_law 387 = .ok (.aload_n 0, 1) := by decide +kernel
theorem d_Lw_law_388 : decode cc_Lw_law 388 = .ok (.iload 4, 2) := by decide +kernel
theorem d_Lw_law_390 : decode cc_Lw_law 390 = .ok (.iconst 3, 1) := by decide +kernel
theorem d_Lw_law_391 : decode cc_Lw_law 391 = .ok (.iadd, 1) := by decide +kernel
theorem d_Lw_law_392 : decode cc_Lw_law 392 = .ok (.iaload, 1) := by decide +kernel
theorem d_Lw_law_393 : decode cc_Lw_law 393 = .ok (.aload_n 0, 1) := by decide +kernel
theorem d_Lw_law_394 : decode cc_Lw_law 394 = .ok (.iload 4, 2) := by decide +kernel
theorem d_Lw_law_396 : decode cc_Lw_law 396 = .ok (.iconst 4, 1) := by decide +kernel
theorem d_Lw_law_397 : decode cc_Lw_law 397 = .ok (.iadd, 1) := by decide +kernel
theorem d_Lw_law_398 : decode cc_Lw_law 398 = .ok (.iaload, 1) := by decide +kernel
theorem d_Lw_law_399 : decode cc_Lw_law 399 = .ok (.aload_n 0, 1) := by decide +kernel
theorem d_Lw_law_400 : decode cc_Lw_law 400 = .ok (.iload 4, 2) := by decide +kernel
theorem d_Lw_law_402 : decode cc_Lw_law 402 = .ok (.iconst 5, 1) := by decide +kernel
theorem d_Lw_law_403 : decode cc_Lw_law 403 = .ok (.iadd, 1) := by decide +kernel
theorem d_Lw_law_404 : decode cc_Lw_law 404 = .ok (.iaload, 1) := by decide +kernel
theorem d_Lw_law_405 : decode cc_Lw_law 405 = .ok (.aload_n 3, 1) := by decide +kernel
theorem d_Lw_law_406 : decode cc_Lw_law 406 = .ok (.invokestatic 95, 3) := by decide +kernel
theorem d_Lw_law_409 : decode cc_Lw_law 409 = .ok (.istore 5, 2) := by decide +kernel
theorem d_Lw_law_411 : decode cc_Lw_law 411 = .ok (.aload_n 2, 1) := by decide +kernel
theorem d_Lw_law_412 : decode cc_Lw_law 412 = .ok (.aload_n 0, 1) := by decide +kernel
theorem d_Lw_law_413 : decode cc_Lw_law 413 = .ok (.iload 4, 2) := by decide +kernel
theorem d_Lw_law_415 : decode cc_Lw_law 415 = .ok (.iconst 1, 1) := by decide +kernel
theorem d_Lw_law_416 : decode cc_Lw_law 416 = .ok (.iadd, 1) := by decide +kernel
theorem d_Lw_law_417 : decode cc_Lw_law 417 = .ok (.iaload, 1) := by decide +kernel
theorem d_Lw_law_418 : decode cc_Lw_law 418 = .ok (.aload_n 0, 1) := by decide +kernel
theorem d_Lw_law_419 : decode cc_Lw_law 419 = .ok (.iload 4, 2) := by decide +kernel
theorem d_Lw_law_421 : decode cc_Lw_law 421 = .ok (.iconst 2, 1) := by decide +kernel
theorem d_Lw_law_422 : decode cc_Lw_law 422 = .ok (.iadd, 1) := by decide +kernel
theorem d_Lw_law_423 : decode cc_Lw_law 423 = .ok (.iaload, 1) := by decide +kernel
theorem d_Lw_law_424 : decode cc_Lw_law 424 = .ok (.aload_n 0, 1) := by decide +kernel
theorem d_Lw_law_425 : decode cc_Lw_law 425 = .ok (.iload 4, 2) := by decide +kernel
theorem d_Lw_law_427 : decode cc_Lw_law 427 = .ok (.iconst 3, 1) := by decide +kernel
theorem d_Lw_law_428 : decode cc_Lw_law 428 = .ok (.iadd, 1) := by decide +kernel
theorem d_Lw_law_429 : decode cc_Lw_law 429 = .ok (.iaload, 1) := by decide +kernel
theorem d_Lw_law_430 : decode cc_Lw_law 430 = .ok (.aload_n 0, 1) := by decide +kernel
theorem d_Lw_law_431 : decode cc_Lw_law 431 = .ok (.iload 4, 2) := by decide +kernel
theorem d_Lw_law_433 : decode cc_Lw_law 433 = .ok (.iconst 4, 1) := by decide +kernel
theorem d_Lw_law_434 : decode cc_Lw_law 434 = .ok (.iadd, 1) := by decide +kernel
theorem d_Lw_law_435 : decode cc_Lw_law 435 = .ok (.iaload, 1) := by decide +kernel
theorem d_Lw_law_436 : decode cc_Lw_law 436 = .ok (.aload_n 0, 1) := by decide +kernel
theorem d_Lw_law_437 : decode cc_Lw_law 437 = .ok (.iload 4, 2) := by decide +kernel
theorem d_Lw_law_439 : decode cc_Lw_law 439 = .ok (.iconst 5, 1) := by decide +kernel
theorem d_Lw_law_440 : decode cc_Lw_law 440 = .ok (.iadd, 1) := by decide +kernel
theorem d_Lw_law_441 : decode cc_Lw_law 441 = .ok (.iaload, 1) := by decide +kernel
theorem d_Lw_law_442 : decode cc_Lw_law 442 = .ok (.invokevirtual 98, 3) := by decide +kernel
theorem d_Lw_law_445 : decode cc_Lw_law 445 = .ok (.istore 6, 2) := by decide +kernel
theorem d_Lw_law_447 : decode cc_Lw_law 447 = .ok (.aload_n 2, 1) := by decide +kernel
theorem d_Lw_law_448 : decode cc_Lw_law 448 = .ok (.invokevirtual 81, 3) := by decide +kernel
theorem d_Lw_law_451 : decode cc_Lw_law 451 = .ok (.iload 5, 2) := by decide +kernel
theorem d_Lw_law_453 : decode cc_Lw_law 453 = .ok (.if_icmp .eq 5, 3) := by decide +kernel
theorem d_Lw_law_456 : decode cc_Lw_law 456 = .ok (.iconst 0, 1) := by decide +kernel
theorem d_Lw_law_457 : decode cc_Lw_law 457 = .ok (.ireturn, 1) := by decide +kernel
theorem d_Lw_law_458 : decode cc_Lw_law 458 = .ok (.iload 5, 2) := by decide +kernel
theorem d_Lw_law_460 : decode cc_Lw_law 460 = .ok (.ifCond .ne 15, 3) := by decide +kernel
theorem d_Lw_law_463 : decode cc_Lw_law 463 = .ok (.aload_n 3, 1) := by decide +kernel
theorem d_Lw_law_464 : decode cc_Lw_law 464 = .ok (.iconst 0, 1) := by decide +kernel
theorem d_Lw_law_465 : decode cc_Lw_law 465 = .ok (.laload, 1) := by decide +kernel
theorem d_Lw_law_466 : decode cc_Lw_law 466 = .ok (.iload 6, 2) := by decide +kernel
theorem d_Lw_law_468 : decode cc_Lw_law 468 = .ok (.i2l, 1) := by decide +kernel
theorem d_Lw_law_469 : decode cc_Lw_law 469 = .ok (.lcmp, 1) := by decide +kernel
theorem d_Lw_law_470 : decode cc_Lw_law 470 = .ok (.ifCond .eq 5, 3) := by decide +kernel
theorem d_Lw_law_473 : decode cc_Lw_law 473 = .ok (.iconst 0, 1) := by decide +kernel
theorem d_Lw_law_474 : decode cc_Lw_law 474 = .ok (.ireturn, 1) := by decide +kernel
theorem d_Lw_law_475 : decode cc_Lw_law 475 = .ok (.goto 554, 3) := by decide +kernel
theorem d_Lw_law_478 : decode cc_Lw_law 478 = .ok (.aload_n 1, 1) := by decide +kernel
theorem d_Lw_law_479 : decode cc_Lw_law 479 = .ok (.aload_n 0, 1) := by decide +kernel
theorem d_Lw_law_480 : decode cc_Lw_law 480 = .ok (.iload 4, 2) := by decide +kernel
theorem d_Lw_law_482 : decode cc_Lw_law 482 = .ok (.iconst 1, 1) := by decide +kernel
theorem d_Lw_law_483 : decode cc_Lw_law 483 = .ok (.iadd, 1) := by decide +kernel
theorem d_Lw_law_484 : decode cc_Lw_law 484 = .ok (.iaload, 1) := by decide +kernel
theorem d_Lw_law_485 : decode cc_Lw_law 485 = .ok (.aload_n 3, 1) := by decide +kernel
theorem d_Lw_law_486 : decode cc_Lw_law 486 = .ok (.invokestatic 99, 3) := by decide +kernel
theorem d_Lw_law_489 : decode cc_Lw_law 489 = .ok (.istore 5, 2) := by decide +kernel
theorem d_Lw_law_491 : decode cc_Lw_law 491 = .ok (.aload_n 2, 1) := by decide +kernel
theorem d_Lw_law_492 : decode cc_Lw_law 492 = .ok (.aload_n 0, 1) := by decide +kernel
theorem d_Lw_law_493 : decode cc_Lw_law 493 = .ok (.iload 4, 2) := by decide +kernel
theorem d_Lw_law_495 : decode cc_Lw_law 495 = .ok (.iconst 1, 1) := by decide +kernel
theorem d_Lw_law_496 : decode cc_Lw_law 496 = .ok (.iadd, 1) := by decide +kernel
theorem d_Lw_law_497 : decode cc_Lw_law 497 = .ok (.iaload, 1) := by decide +kernel
theorem d_Lw_law_498 : decode cc_Lw_law 498 = .ok (.invokevirtual 102, 3) := by decide +kernel
theorem d_Lw_law_501 : decode cc_Lw_law 501 = .ok (.istore 6, 2) := by decide +kernel
theorem d_Lw_law_503 : decode cc_Lw_law 503 = .ok (.aload_n 2, 1) := by decide +kernel
theorem d_Lw_law_504 : decode cc_Lw_law 504 = .ok (.invokevirtual 81, 3) := by decide +kernel
theorem d_Lw_law_507 : decode cc_Lw_law 507 = .ok (.iload 5, 2) := by decide +kernel
theorem d_Lw_law_509 : decode cc_Lw_law 509 = .ok (.if_icmp .eq 5, 3) := by decide +kernel
theorem d_Lw_law_512 : decode cc_Lw_law 512 = .ok (.iconst 0, 1) := by decide +kernel
theorem d_Lw_law_513 : decode cc_Lw_law 513 = .ok (.ireturn, 1) := by decide +kernel
theorem d_Lw_law_514 : decode cc_Lw_law 514 = .ok (.iload 5, 2) := by decide +kernel
theorem d_Lw_law_516 : decode cc_Lw_law 516 = .ok (.ifCond .ne 15, 3) := by decide +kernel
theorem d_Lw_law_519 : decode cc_Lw_law 519 = .ok (.aload_n 3, 1) := by decide +kernel
theorem d_Lw_law_520 : decode cc_Lw_law 520 = .ok (.iconst 0, 1) := by decide +kernel
theorem d_Lw_law_521 : decode cc_Lw_law 521 = .ok (.laload, 1) := by decide +kernel
theorem d_Lw_law_522 : decode cc_Lw_law 522 = .ok (.iload 6, 2) := by decide +kernel
theorem d_Lw_law_524 : decode cc_Lw_law 524 = .ok (.i2l, 1) := by decide +kernel
theorem d_Lw_law_525 : decode cc_Lw_law 525 = .ok (.lcmp, 1) := by decide +kernel
theorem d_Lw_law_526 : decode cc_Lw_law 526 = .ok (.ifCond .eq 5, 3) := by decide +kernel
theorem d_Lw_law_529 : decode cc_Lw_law 529 = .ok (.iconst 0, 1) := by decide +kernel
theorem d_Lw_law_530 : decode cc_Lw_law 530 = .ok (.ireturn, 1) := by decide +kernel
theorem d_Lw_law_531 : decode cc_Lw_law 531 = .ok (.goto 498, 3) := by decide +kernel
theorem d_Lw_law_534 : decode cc_Lw_law 534 = .ok (.aload_n 1, 1) := by decide +kernel
theorem d_Lw_law_535 : decode cc_Lw_law 535 = .ok (.aload_n 0, 1) := by decide +kernel
theorem d_Lw_law_536 : decode cc_Lw_law 536 = .ok (.iload 4, 2) := by decide +kernel
theorem d_Lw_law_538 : decode cc_Lw_law 538 = .ok (.iconst 1, 1) := by decide +kernel
theorem d_Lw_law_539 : decode cc_Lw_law 539 = .ok (.iadd, 1) := by decide +kernel
theorem d_Lw_law_540 : decode cc_Lw_law 540 = .ok (.iaload, 1) := by decide +kernel
theorem d_Lw_law_541 : decode cc_Lw_law 541 = .ok (.aload_n 3, 1) := by decide +kernel
theorem d_Lw_law_542 : decode cc_Lw_law 542 = .ok (.invokestatic 103, 3) := by decide +kernel
theorem d_Lw_law_545 : decode cc_Lw_law 545 = .ok (.istore 5, 2) := by decide +kernel
theorem d_Lw_law_547 : decode cc_Lw_law 547 = .ok (.aload_n 2, 1) := by decide +kernel
theorem d_Lw_law_548 : decode cc_Lw_law 548 = .ok (.aload_n 0, 1) := by decide +kernel
theorem d_Lw_law_549 : decode cc_Lw_law 549 = .ok (.iload 4, 2) := by decide +kernel
theorem d_Lw_law_551 : decode cc_Lw_law 551 = .ok (.iconst 1, 1) := by decide +kernel
theorem d_Lw_law_552 : decode cc_Lw_law 552 = .ok (.iadd, 1) := by decide +kernel
theorem d_Lw_law_553 : decode cc_Lw_law 553 = .ok (.iaload, 1) := by decide +kernel
theorem d_Lw_law_554 : decode cc_Lw_law 554 = .ok (.invokevirtual 105, 3) := by decide +kernel
theorem d_Lw_law_557 : decode cc_Lw_law 557 = .ok (.istore 6, 2) := by decide +kernel
theorem d_Lw_law_559 : decode cc_Lw_law 559 = .ok (.aload_n 2, 1) := by decide +kernel
theorem d_Lw_law_560 : decode cc_Lw_law 560 = .ok (.invokevirtual 81, 3) := by decide +kernel
theorem d_Lw_law_563 : decode cc_Lw_law 563 = .ok (.iload 5, 2) := by decide +kernel
theorem d_Lw_law_565 : decode cc_Lw_law 565 = .ok (.if_icmp .eq 5, 3) := by decide +kernel
theorem d_Lw_law_568 : decode cc_Lw_law 568 = .ok (.iconst 0, 1) := by decide +kernel
theorem d_Lw_law_569 : decode cc_Lw_law 569 = .ok (.ireturn, 1) := by decide +kernel
theorem d_Lw_law_570 : decode cc_Lw_law 570 = .ok (.iload 5, 2) := by decide +kernel
theorem d_Lw_law_572 : decode cc_Lw_law 572 = .ok (.ifCond .ne 15, 3) := by decide +kernel
theorem d_Lw_law_575 : decode cc_Lw_law 575 = .ok (.aload_n 3, 1) := by decide +kernel
theorem d_Lw_law_576 : decode cc_Lw_law 576 = .ok (.iconst 0, 1) := by decide +kernel
theorem d_Lw_law_577 : decode cc_Lw_law 577 = .ok (.laload, 1) := by decide +kernel
theorem d_Lw_law_578 : decode cc_Lw_law 578 = .ok (.iload 6, 2) := by decide +kernel
theorem d_Lw_law_580 : decode cc_Lw_law 580 = .ok (.i2l, 1) := by decide +kernel
theorem d_Lw_law_581 : decode cc_Lw_law 581 = .ok (.lcmp, 1) := by decide +kernel
theorem d_Lw_law_582 : decode cc_Lw_law 582 = .ok (.ifCond .eq 5, 3) := by decide +kernel
theorem d_Lw_law_585 : decode cc_Lw_law 585 = .ok (.iconst 0, 1) := by decide +kernel
theorem d_Lw_law_586 : decode cc_Lw_law 586 = .ok (.ireturn, 1) := by decide +kernel
theorem d_Lw_law_587 : decode cc_Lw_law 587 = .ok (.goto 442, 3) := by decide +kernel
theorem d_Lw_law_590 : decode cc_Lw_law 590 = .ok (.aload_n 1, 1) := by decide +kernel
theorem d_Lw_law_591 : decode cc_Lw_law 591 = .ok (.aload_n 0, 1) := by decide +kernel
theorem d_Lw_law_592 : decode cc_Lw_law 592 = .ok (.iload 4, 2) := by decide +kernel
theorem d_Lw_law_594 : decode cc_Lw_law 594 = .ok (.iconst 1, 1) := by decide +kernel
theorem d_Lw_law_595 : decode cc_Lw_law 595 = .ok (.iadd, 1) := by decide +kernel
theorem d_Lw_law_596 : decode cc_Lw_law 596 = .ok (.iaload, 1) := by decide +kernel
theorem d_Lw_law_597 : decode cc_Lw_law 597 = .ok (.aload_n 3, 1) := by decide +kernel
theorem d_Lw_law_598 : decode cc_Lw_law 598 = .ok (.invokestatic 106, 3) := by decide +kernel
theorem d_Lw_law_601 : decode cc_Lw_law 601 = .ok (.istore 5, 2) := by decide +kernel
theorem d_Lw_law_603 : decode cc_Lw_law 603 = .ok (.aload_n 2, 1) := by decide +kernel
theorem d_Lw_law_604 : decode cc_Lw_law 604 = .ok (.aload_n 0, 1) := by decide +kernel
theorem d_Lw_law_605 : decode cc_Lw_law 605 = .ok (.iload 4, 2) := by decide +kernel
theorem d_Lw_law_607 : decode cc_Lw_law 607 = .ok (.iconst 1, 1) := by decide +kernel
theorem d_Lw_law_608 : decode cc_Lw_law 608 = .ok (.iadd, 1) := by decide +kernel
theorem d_Lw_law_609 : decode cc_Lw_law 609 = .ok (.iaload, 1) := by decide +kernel
theorem d_Lw_law_610 : decode cc_Lw_law 610 = .ok (.invokevirtual 108, 3) := by decide +kernel
theorem d_Lw_law_613 : decode cc_Lw_law 613 = .ok (.lstore 6, 2) := by decide +kernel
theorem d_Lw_law_615 : decode cc_Lw_law 615 = .ok (.aload_n 2, 1) := by decide +kernel
theorem d_Lw_law_616 : decode cc_Lw_law 616 = .ok (.invokevirtual 81, 3) := by decide +kernel
theorem d_Lw_law_619 : decode cc_Lw_law 619 = .ok (.iload 5, 2) := by decide +kernel
theorem d_Lw_law_621 : decode cc_Lw_law 621 = .ok (.if_icmp .eq 5, 3) := by decide +kernel
theorem d_Lw_law_624 : decode cc_Lw_law 624 = .ok (.iconst 0, 1) := by decide +kernel
theorem d_Lw_law_625 : decode cc_Lw_law 625 = .ok (.ireturn, 1) := by decide +kernel
theorem d_Lw_law_626 : decode cc_Lw_law 626 = .ok (.iload 5, 2) := by decide +kernel
theorem d_Lw_law_628 : decode cc_Lw_law 628 = .ok (.ifCond .ne 14, 3) := by decide +kernel
theorem d_Lw_law_631 : decode cc_Lw_law 631 = .ok (.aload_n 3, 1) := by decide +kernel
theorem d_Lw_law_632 : decode cc_Lw_law 632 = .ok (.iconst 0, 1) := by decide +kernel
theorem d_Lw_law_633 : decode cc_Lw_law 633 = .ok (.laload, 1) := by decide +kernel
theorem d_Lw_law_634 : decode cc_Lw_law 634 = .ok (.lload 6, 2) := by decide +kernel
theorem d_Lw_law_636 : decode cc_Lw_law 636 = .ok (.lcmp, 1) := by decide +kernel
theorem d_Lw_law_637 : decode cc_Lw_law 637 = .ok (.ifCond .eq 5, 3) := by decide +kernel
theorem d_Lw_law_640 : decode cc_Lw_law 640 = .ok (.iconst 0, 1) := by decide +kernel
theorem d_Lw_law_641 : decode cc_Lw_law 641 = .ok (.ireturn, 1) := by decide +kernel
theorem d_Lw_law_642 : decode cc_Lw_law 642 = .ok (.goto 387, 3) := by decide +kernel
theorem d_Lw_law_645 : decode cc_Lw_law 645 = .ok (.aload_n 1, 1) := by decide +kernel
theorem d_Lw_law_646 : decode cc_Lw_law 646 = .ok (.aload_n 0, 1) := by decide +kernel
theorem d_Lw_law_647 : decode cc_Lw_law 647 = .ok (.iload 4, 2) := by decide +kernel
theorem d_Lw_law_649 : decode cc_Lw_law 649 = .ok (.iconst 1, 1) := by decide +kernel
theorem d_Lw_law_650 : decode cc_Lw_law 650 = .ok (.iadd, 1) := by decide +kernel
theorem d_Lw_law_651 : decode cc_Lw_law 651 = .ok (.iaload, 1) := by decide +kernel
theorem d_Lw_law_652 : decode cc_Lw_law 652 = .ok (.aload_n 3, 1) := by decide +kernel
theorem d_Lw_law_653 : decode cc_Lw_law 653 = .ok (.invokestatic 109, 3) := by decide +kernel
theorem d_Lw_law_656 : decode cc_Lw_law 656 = .ok (.istore 5, 2) := by decide +kernel
theorem d_Lw_law_658 : decode cc_Lw_law 658 = .ok (.aload_n 2, 1) := by decide +kernel
theorem d_Lw_law_659 : decode cc_Lw_law 659 = .ok (.aload_n 0, 1) := by decide +kernel
theorem d_Lw_law_660 : decode cc_Lw_law 660 = .ok (.iload 4, 2) := by decide +kernel
theorem d_Lw_law_662 : decode cc_Lw_law 662 = .ok (.iconst 1, 1) := by decide +kernel
theorem d_Lw_law_663 : decode cc_Lw_law 663 = .ok (.iadd, 1) := by decide +kernel
theorem d_Lw_law_664 : decode cc_Lw_law 664 = .ok (.iaload, 1) := by decide +kernel
theorem d_Lw_law_665 : decode cc_Lw_law 665 = .ok (.invokevirtual 111, 3) := by decide +kernel
theorem d_Lw_law_668 : decode cc_Lw_law 668 = .ok (.istore 6, 2) := by decide +kernel
theorem d_Lw_law_670 : decode cc_Lw_law 670 = .ok (.aload_n 2, 1) := by decide +kernel
theorem d_Lw_law_671 : decode cc_Lw_law 671 = .ok (.invokevirtual 81, 3) := by decide +kernel
theorem d_Lw_law_674 : decode cc_Lw_law 674 = .ok (.iload 5, 2) := by decide +kernel
theorem d_Lw_law_676 : decode cc_Lw_law 676 = .ok (.if_icmp .eq 5, 3) := by decide +kernel
theorem d_Lw_law_679 : decode cc_Lw_law 679 = .ok (.iconst 0, 1) := by decide +kernel
theorem d_Lw_law_680 : decode cc_Lw_law 680 = .ok (.ireturn, 1) := by decide +kernel
theorem d_Lw_law_681 : decode cc_Lw_law 681 = .ok (.iload 5, 2) := by decide +kernel
theorem d_Lw_law_683 : decode cc_Lw_law 683 = .ok (.ifCond .ne 15, 3) := by decide +kernel
theorem d_Lw_law_686 : decode cc_Lw_law 686 = .ok (.aload_n 3, 1) := by decide +kernel
theorem d_Lw_law_687 : decode cc_Lw_law 687 = .ok (.iconst 0, 1) := by decide +kernel
theorem d_Lw_law_688 : decode cc_Lw_law 688 = .ok (.laload, 1) := by decide +kernel
theorem d_Lw_law_689 : decode cc_Lw_law 689 = .ok (.iload 6, 2) := by decide +kernel
theorem d_Lw_law_691 : decode cc_Lw_law 691 = .ok (.i2l, 1) := by decide +kernel
theorem d_Lw_law_692 : decode cc_Lw_law 692 = .ok (.lcmp, 1) := by decide +kernel
theorem d_Lw_law_693 : decode cc_Lw_law 693 = .ok (.ifCond .eq 5, 3) := by decide +kernel
theorem d_Lw_law_696 : decode cc_Lw_law 696 = .ok (.iconst 0, 1) := by decide +kernel
theorem d_Lw_law_697 : decode cc_Lw_law 697 = .ok (.ireturn, 1) := by decide +kernel
theorem d_Lw_law_698 : decode cc_Lw_law 698 = .ok (.goto 331, 3) := by decide +kernel
theorem d_Lw_law_701 : decode cc_Lw_law 701 = .ok (.aload_n 1, 1) := by decide +kernel
theorem d_Lw_law_702 : decode cc_Lw_law 702 = .ok (.aload_n 0, 1) := by decide +kernel
theorem d_Lw_law_703 : decode cc_Lw_law 703 = .ok (.iload 4, 2) := by decide +kernel
theorem d_Lw_law_705 : decode cc_Lw_law 705 = .ok (.iconst 1, 1) := by decide +kernel
theorem d_Lw_law_706 : decode cc_Lw_law 706 = .ok (.iadd, 1) := by decide +kernel
theorem d_Lw_law_707 : decode cc_Lw_law 707 = .ok (.iaload, 1) := by decide +kernel
theorem d_Lw_law_708 : decode cc_Lw_law 708 = .ok (.aload_n 0, 1) := by decide +kernel
theorem d_Lw_law_709 : decode cc_Lw_law 709 = .ok (.iload 4, 2) := by decide +kernel
theorem d_Lw_law_711 : decode cc_Lw_law 711 = .ok (.iconst 2, 1) := by decide +kernel
theorem d_Lw_law_712 : decode cc_Lw_law 712 = .ok (.iadd, 1) := by decide +kernel
theorem d_Lw_law_713 : decode cc_Lw_law 713 = .ok (.iaload, 1) := by decide +kernel
theorem d_Lw_law_714 : decode cc_Lw_law 714 = .ok (.aload_n 3, 1) := by decide +kernel
theorem d_Lw_law_715 : decode cc_Lw_law 715 = .ok (.invokestatic 112, 3) := by decide +kernel
theorem d_Lw_law_718 : decode cc_Lw_law 718 = .ok (.istore 5, 2) := by decide +kernel
theorem d_Lw_law_720 : decode cc_Lw_law 720 = .ok (.aload_n 2, 1) := by decide +kernel
theorem d_Lw_law_721 : decode cc_Lw_law 721 = .ok (.aload_n 0, 1) := by decide +kernel
theorem d_Lw_law_722 : decode cc_Lw_law 722 = .ok (.iload 4, 2) := by decide +kernel
theorem d_Lw_law_724 : decode cc_Lw_law 724 = .ok (.iconst 1, 1) := by decide +kernel
theorem d_Lw_law_725 : decode cc_Lw_law 725 = .ok (.iadd, 1) := by decide +kernel
theorem d_Lw_law_726 : decode cc_Lw_law 726 = .ok (.iaload, 1) := by decide +kernel
theorem d_Lw_law_727 : decode cc_Lw_law 727 = .ok (.aload_n 0, 1) := by decide +kernel
theorem d_Lw_law_728 : decode cc_Lw_law 728 = .ok (.iload 4, 2) := by decide +kernel
theorem d_Lw_law_730 : decode cc_Lw_law 730 = .ok (.iconst 2, 1) := by decide +kernel
theorem d_Lw_law_731 : decode cc_Lw_law 731 = .ok (.iadd, 1) := by decide +kernel
theorem d_Lw_law_732 : decode cc_Lw_law 732 = .ok (.iaload, 1) := by decide +kernel
theorem d_Lw_law_733 : decode cc_Lw_law 733 = .ok (.invokevirtual 114, 3) := by decide +kernel
theorem d_Lw_law_736 : decode cc_Lw_law 736 = .ok (.istore 6, 2) := by decide +kernel
theorem d_Lw_law_738 : decode cc_Lw_law 738 = .ok (.aload_n 2, 1) := by decide +kernel
theorem d_Lw_law_739 : decode cc_Lw_law 739 = .ok (.invokevirtual 81, 3) := by decide +kernel
theorem d_Lw_law_742 : decode cc_Lw_law 742 = .ok (.iload 5, 2) := by decide +kernel
theorem d_Lw_law_744 : decode cc_Lw_law 744 = .ok (.if_icmp .eq 5, 3) := by decide +kernel
theorem d_Lw_law_747 : decode cc_Lw_law 747 = .ok (.iconst 0, 1) := by decide +kernel
theorem d_Lw_law_748 : decode cc_Lw_law 748 = .ok (.ireturn, 1) := by decide +kernel
theorem d_Lw_law_749 : decode cc_Lw_law 749 = .ok (.iload 5, 2) := by decide +kernel
theorem d_Lw_law_751 : decode cc_Lw_law 751 = .ok (.ifCond .ne 15, 3) := by decide +kernel
theorem d_Lw_law_754 : decode cc_Lw_law 754 = .ok (.aload_n 3, 1) := by decide +kernel
theorem d_Lw_law_755 : decode cc_Lw_law 755 = .ok (.iconst 0, 1) := by decide +kernel
theorem d_Lw_law_756 : decode cc_Lw_law 756 = .ok (.laload, 1) := by decide +kernel
theorem d_Lw_law_757 : decode cc_Lw_law 757 = .ok (.iload 6, 2) := by decide +kernel
theorem d_Lw_law_759 : decode cc_Lw_law 759 = .ok (.i2l, 1) := by decide +kernel
theorem d_Lw_law_760 : decode cc_Lw_law 760 = .ok (.lcmp, 1) := by decide +kernel
theorem d_Lw_law_761 : decode cc_Lw_law 761 = .ok (.ifCond .eq 5, 3) := by decide +kernel
theorem d_Lw_law_764 : decode cc_Lw_law 764 = .ok (.iconst 0, 1) := by decide +kernel
theorem d_Lw_law_765 : decode cc_Lw_law 765 = .ok (.ireturn, 1) := by decide +kernel
theorem d_Lw_law_766 : decode cc_Lw_law 766 = .ok (.goto 263, 3) := by decide +kernel
theorem d_Lw_law_769 : decode cc_Lw_law 769 = .ok (.aload_n 1, 1) := by decide +kernel
theorem d_Lw_law_770 : decode cc_Lw_law 770 = .ok (.aload_n 0, 1) := by decide +kernel
theorem d_Lw_law_771 : decode cc_Lw_law 771 = .ok (.iload 4, 2) := by decide +kernel
theorem d_Lw_law_773 : decode cc_Lw_law 773 = .ok (.iconst 1, 1) := by decide +kernel
theorem d_Lw_law_774 : decode cc_Lw_law 774 = .ok (.iadd, 1) := by decide +kernel
theorem d_Lw_law_775 : decode cc_Lw_law 775 = .ok (.iaload, 1) := by decide +kernel
theorem d_Lw_law_776 : decode cc_Lw_law 776 = .ok (.aload_n 0, 1) := by decide +kernel
theorem d_Lw_law_777 : decode cc_Lw_law 777 = .ok (.iload 4, 2) := by decide +kernel
theorem d_Lw_law_779 : decode cc_Lw_law 779 = .ok (.iconst 2, 1) := by decide +kernel
theorem d_Lw_law_780 : decode cc_Lw_law 780 = .ok (.iadd, 1) := by decide +kernel
theorem d_Lw_law_781 : decode cc_Lw_law 781 = .ok (.iaload, 1) := by decide +kernel
theorem d_Lw_law_782 : decode cc_Lw_law 782 = .ok (.aload_n 0, 1) := by decide +kernel
theorem d_Lw_law_783 : decode cc_Lw_law 783 = .ok (.iload 4, 2) := by decide +kernel
theorem d_Lw_law_785 : decode cc_Lw_law 785 = .ok (.iconst 3, 1) := by decide +kernel
theorem d_Lw_law_786 : decode cc_Lw_law 786 = .ok (.iadd, 1) := by decide +kernel
theorem d_Lw_law_787 : decode cc_Lw_law 787 = .ok (.iaload, 1) := by decide +kernel
theorem d_Lw_law_788 : decode cc_Lw_law 788 = .ok (.aload_n 3, 1) := by decide +kernel
theorem d_Lw_law_789 : decode cc_Lw_law 789 = .ok (.invokestatic 115, 3) := by decide +kernel
theorem d_Lw_law_792 : decode cc_Lw_law 792 = .ok (.istore 5, 2) := by decide +kernel
theorem d_Lw_law_794 : decode cc_Lw_law 794 = .ok (.aload_n 2, 1) := by decide +kernel
theorem d_Lw_law_795 : decode cc_Lw_law 795 = .ok (.aload_n 0, 1) := by decide +kernel
theorem d_Lw_law_796 : decode cc_Lw_law 796 = .ok (.iload 4, 2) := by decide +kernel
theorem d_Lw_law_798 : decode cc_Lw_law 798 = .ok (.iconst 1, 1) := by decide +kernel
theorem d_Lw_law_799 : decode cc_Lw_law 799 = .ok (.iadd, 1) := by decide +kernel
theorem d_Lw_law_800 : decode cc_Lw_law 800 = .ok (.iaload, 1) := by decide +kernel
theorem d_Lw_law_801 : decode cc_Lw_law 801 = .ok (.aload_n 0, 1) := by decide +kernel
theorem d_Lw_law_802 : decode cc_Lw_law 802 = .ok (.iload 4, 2) := by decide +kernel
theorem d_Lw_law_804 : decode cc_Lw_law 804 = .ok (.iconst 2, 1) := by decide +kernel
theorem d_Lw_law_805 : decode cc_Lw_law 805 = .ok (.iadd, 1) := by decide +kernel
theorem d_Lw_law_806 : decode cc_Lw_law 806 = .ok (.iaload, 1) := by decide +kernel
theorem d_Lw_law_807 : decode cc_Lw_law 807 = .ok (.aload_n 0, 1) := by decide +kernel
theorem d_Lw_law_808 : decode cc_Lw_law 808 = .ok (.iload 4, 2) := by decide +kernel
theorem d_Lw_law_810 : decode cc_Lw_law 810 = .ok (.iconst 3, 1) := by decide +kernel
theorem d_Lw_law_811 : decode cc_Lw_law 811 = .ok (.iadd, 1) := by decide +kernel
theorem d_Lw_law_812 : decode cc_Lw_law 812 = .ok (.iaload, 1) := by decide +kernel
theorem d_Lw_law_813 : decode cc_Lw_law 813 = .ok (.invokevirtual 117, 3) := by decide +kernel
theorem d_Lw_law_816 : decode cc_Lw_law 816 = .ok (.istore 6, 2) := by decide +kernel
theorem d_Lw_law_818 : decode cc_Lw_law 818 = .ok (.aload_n 2, 1) := by decide +kernel
theorem d_Lw_law_819 : decode cc_Lw_law 819 = .ok (.invokevirtual 81, 3) := by decide +kernel
theorem d_Lw_law_822 : decode cc_Lw_law 822 = .ok (.iload 5, 2) := by decide +kernel
theorem d_Lw_law_824 : decode cc_Lw_law 824 = .ok (.if_icmp .eq 5, 3) := by decide +kernel
theorem d_Lw_law_827 : decode cc_Lw_law 827 = .ok (.iconst 0, 1) := by decide +kernel
theorem d_Lw_law_828 : decode cc_Lw_law 828 = .ok (.ireturn, 1) := by decide +kernel
theorem d_Lw_law_829 : decode cc_Lw_law 829 = .ok (.iload 5, 2) := by decide +kernel
theorem d_Lw_law_831 : decode cc_Lw_law 831 = .ok (.ifCond .ne 15, 3) := by decide +kernel
theorem d_Lw_law_834 : decode cc_Lw_law 834 = .ok (.aload_n 3, 1) := by decide +kernel
theorem d_Lw_law_835 : decode cc_Lw_law 835 = .ok (.iconst 0, 1) := by decide +kernel
theorem d_Lw_law_836 : decode cc_Lw_law 836 = .ok (.laload, 1) := by decide +kernel
theorem d_Lw_law_837 : decode cc_Lw_law 837 = .ok (.iload 6, 2) := by decide +kernel
theorem d_Lw_law_839 : decode cc_Lw_law 839 = .ok (.i2l, 1) := by decide +kernel
theorem d_Lw_law_840 : decode cc_Lw_law 840 = .ok (.lcmp, 1) := by decide +kernel
theorem d_Lw_law_841 : decode cc_Lw_law 841 = .ok (.ifCond .eq 5, 3) := by decide +kernel
theorem d_Lw_law_844 : decode cc_Lw_law 844 = .ok (.iconst 0, 1) := by decide +kernel
theorem d_Lw_law_845 : decode cc_Lw_law 845 = .ok (.ireturn, 1) := by decide +kernel
theorem d_Lw_law_846 : decode cc_Lw_law 846 = .ok (.goto 183, 3) := by decide +kernel
theorem d_Lw_law_849 : decode cc_Lw_law 849 = .ok (.aload_n 1, 1) := by decide +kernel
theorem d_Lw_law_850 : decode cc_Lw_law 850 = .ok (.aload_n 0, 1) := by decide +kernel
theorem d_Lw_law_851 : decode cc_Lw_law 851 = .ok (.iload 4, 2) := by decide +kernel
theorem d_Lw_law_853 : decode cc_Lw_law 853 = .ok (.iconst 1, 1) := by decide +kernel
theorem d_Lw_law_854 : decode cc_Lw_law 854 = .ok (.iadd, 1) := by decide +kernel
theorem d_Lw_law_855 : decode cc_Lw_law 855 = .ok (.iaload, 1) := by decide +kernel
theorem d_Lw_law_856 : decode cc_Lw_law 856 = .ok (.aload_n 0, 1) := by decide +kernel
theorem d_Lw_law_857 : decode cc_Lw_law 857 = .ok (.iload 4, 2) := by decide +kernel
theorem d_Lw_law_859 : decode cc_Lw_law 859 = .ok (.iconst 2, 1) := by decide +kernel
theorem d_Lw_law_860 : decode cc_Lw_law 860 = .ok (.iadd, 1) := by decide +kernel
theorem d_Lw_law_861 : decode cc_Lw_law 861 = .ok (.iaload, 1) := by decide +kernel
theorem d_Lw_law_862 : decode cc_Lw_law 862 = .ok (.aload_n 3, 1) := by decide +kernel
theorem d_Lw_law_863 : decode cc_Lw_law 863 = .ok (.invokestatic 118, 3) := by decide +kernel
theorem d_Lw_law_866 : decode cc_Lw_law 866 = .ok (.istore 5, 2) := by decide +kernel
theorem d_Lw_law_868 : decode cc_Lw_law 868 = .ok (.aload_n 2, 1) := by decide +kernel
theorem d_Lw_law_869 : decode cc_Lw_law 869 = .ok (.aload_n 0, 1) := by decide +kernel
theorem d_Lw_law_870 : decode cc_Lw_law 870 = .ok (.iload 4, 2) := by decide +kernel
theorem d_Lw_law_872 : decode cc_Lw_law 872 = .ok (.iconst 1, 1) := by decide +kernel
theorem d_Lw_law_873 : decode cc_Lw_law 873 = .ok (.iadd, 1) := by decide +kernel
theorem d_Lw_law_874 : decode cc_Lw_law 874 = .ok (.iaload, 1) := by decide +kernel
theorem d_Lw_law_875 : decode cc_Lw_law 875 = .ok (.aload_n 0, 1) := by decide +kernel
theorem d_Lw_law_876 : decode cc_Lw_law 876 = .ok (.iload 4, 2) := by decide +kernel
theorem d_Lw_law_878 : decode cc_Lw_law 878 = .ok (.iconst 2, 1) := by decide +kernel
theorem d_Lw_law_879 : decode cc_Lw_law 879 = .ok (.iadd, 1) := by decide +kernel
theorem d_Lw_law_880 : decode cc_Lw_law 880 = .ok (.iaload, 1) := by decide +kernel
theorem d_Lw_law_881 : decode cc_Lw_law 881 = .ok (.invokevirtual 120, 3) := by decide +kernel
theorem d_Lw_law_884 : decode cc_Lw_law 884 = .ok (.istore 6, 2) := by decide +kernel
theorem d_Lw_law_886 : decode cc_Lw_law 886 = .ok (.aload_n 2, 1) := by decide +kernel
theorem d_Lw_law_887 : decode cc_Lw_law 887 = .ok (.invokevirtual 81, 3) := by decide +kernel
theorem d_Lw_law_890 : decode cc_Lw_law 890 = .ok (.iload 5, 2) := by decide +kernel
theorem d_Lw_law_892 : decode cc_Lw_law 892 = .ok (.if_icmp .eq 5, 3) := by decide +kernel
theorem d_Lw_law_895 : decode cc_Lw_law 895 = .ok (.iconst 0, 1) := by decide +kernel
theorem d_Lw_law_896 : decode cc_Lw_law 896 = .ok (.ireturn, 1) := by decide +kernel
theorem d_Lw_law_897 : decode cc_Lw_law 897 = .ok (.iload 5, 2) := by decide +kernel
theorem d_Lw_law_899 : decode cc_Lw_law 899 = .ok (.ifCond .ne 15, 3) := by decide +kernel
theorem d_Lw_law_902 : decode cc_Lw_law 902 = .ok (.aload_n 3, 1) := by decide +kernel
theorem d_Lw_law_903 : decode cc_Lw_law 903 = .ok (.iconst 0, 1) := by decide +kernel
theorem d_Lw_law_904 : decode cc_Lw_law 904 = .ok (.laload, 1) := by decide +kernel
theorem d_Lw_law_905 : decode cc_Lw_law 905 = .ok (.iload 6, 2) := by decide +kernel
end
section
theorem d_Lw_law_907 : decode cc_Lw_law 907 = .ok (.i2l, 1) := by decide +kernel
theorem d_Lw_law_908 : decode cc_Lw_law 908 = .ok (.lcmp, 1) := by decide +kernel
theorem d_Lw_law_909 : decode cc_Lw_law 909 = .ok (.ifCond .eq 5, 3) := by decide +kernel
theorem d_Lw_law_912 : decode cc_Lw_law 912 = .ok (.iconst 0, 1) := by decide +kernel
theorem d_Lw_law_913 : decode cc_Lw_law 913 = .ok (.ireturn, 1) := by decide +kernel
theorem d_Lw_law_914 : decode cc_Lw_law 914 = .ok (.goto 115, 3) := by decide +kernel
theorem d_Lw_law_917 : decode cc_Lw_law 917 = .ok (.aload_n 1, 1) := by decide +kernel
theorem d_Lw_law_918 : decode cc_Lw_law 918 = .ok (.aload_n 0, 1) := by decide +kernel
theorem d_Lw_law_919 : decode cc_Lw_law 919 = .ok (.iload 4, 2) := by decide +kernel
theorem d_Lw_law_921 : decode cc_Lw_law 921 = .ok (.iconst 1, 1) := by decide +kernel
theorem d_Lw_law_922 : decode cc_Lw_law 922 = .ok (.iadd, 1) := by decide +kernel
theorem d_Lw_law_923 : decode cc_Lw_law 923 = .ok (.iaload, 1) := by decide +kernel
theorem d_Lw_law_924 : decode cc_Lw_law 924 = .ok (.aload_n 3, 1) := by decide +kernel
theorem d_Lw_law_925 : decode cc_Lw_law 925 = .ok (.invokestatic 121, 3) := by decide +kernel
theorem d_Lw_law_928 : decode cc_Lw_law 928 = .ok (.istore 5, 2) := by decide +kernel
theorem d_Lw_law_930 : decode cc_Lw_law 930 = .ok (.aload_n 2, 1) := by decide +kernel
theorem d_Lw_law_931 : decode cc_Lw_law 931 = .ok (.aload_n 0, 1) := by decide +kernel
theorem d_Lw_law_932 : decode cc_Lw_law 932 = .ok (.iload 4, 2) := by decide +kernel
theorem d_Lw_law_934 : decode cc_Lw_law 934 = .ok (.iconst 1, 1) := by decide +kernel
theorem d_Lw_law_935 : decode cc_Lw_law 935 = .ok (.iadd, 1) := by decide +kernel
theorem d_Lw_law_936 : decode cc_Lw_law 936 = .ok (.iaload, 1) := by decide +kernel
theorem d_Lw_law_937 : decode cc_Lw_law 937 = .ok (.invokevirtual 123, 3) := by decide +kernel
theorem d_Lw_law_940 : decode cc_Lw_law 940 = .ok (.istore 6, 2) := by decide +kernel
theorem d_Lw_law_942 : decode cc_Lw_law 942 = .ok (.aload_n 2, 1) := by decide +kernel
theorem d_Lw_law_943 : decode cc_Lw_law 943 = .ok (.invokevirtual 81, 3) := by decide +kernel
theorem d_Lw_law_946 : decode cc_Lw_law 946 = .ok (.iload 5, 2) := by decide +kernel
theorem d_Lw_law_948 : decode cc_Lw_law 948 = .ok (.if_icmp .eq 5, 3) := by decide +kernel
theorem d_Lw_law_951 : decode cc_Lw_law 951 = .ok (.iconst 0, 1) := by decide +kernel
theorem d_Lw_law_952 : decode cc_Lw_law 952 = .ok (.ireturn, 1) := by decide +kernel
theorem d_Lw_law_953 : decode cc_Lw_law 953 = .ok (.iload 5, 2) := by decide +kernel
theorem d_Lw_law_955 : decode cc_Lw_law 955 = .ok (.ifCond .ne 15, 3) := by decide +kernel
theorem d_Lw_law_958 : decode cc_Lw_law 958 = .ok (.aload_n 3, 1) := by decide +kernel
theorem d_Lw_law_959 : decode cc_Lw_law 959 = .ok (.iconst 0, 1) := by decide +kernel
theorem d_Lw_law_960 : decode cc_Lw_law 960 = .ok (.laload, 1) := by decide +kernel
theorem d_Lw_law_961 : decode cc_Lw_law 961 = .ok (.iload 6, 2) := by decide +kernel
theorem d_Lw_law_963 : decode cc_Lw_law 963 = .ok (.i2l, 1) := by decide +kernel
theorem d_Lw_law_964 : decode cc_Lw_law 964 = .ok (.lcmp, 1) := by decide +kernel
theorem d_Lw_law_965 : decode cc_Lw_law 965 = .ok (.ifCond .eq 5, 3) := by decide +kernel
theorem d_Lw_law_968 : decode cc_Lw_law 968 = .ok (.iconst 0, 1) := by decide +kernel
theorem d_Lw_law_969 : decode cc_Lw_law 969 = .ok (.ireturn, 1) := by decide +kernel
theorem d_Lw_law_970 : decode cc_Lw_law 970 = .ok (.goto 59, 3) := by decide +kernel
theorem d_Lw_law_973 : decode cc_Lw_law 973 = .ok (.aload_n 1, 1) := by decide +kernel
theorem d_Lw_law_974 : decode cc_Lw_law 974 = .ok (.aload_n 0, 1) := by decide +kernel
theorem d_Lw_law_975 : decode cc_Lw_law 975 = .ok (.iload 4, 2) := by decide +kernel
theorem d_Lw_law_977 : decode cc_Lw_law 977 = .ok (.iconst 1, 1) := by decide +kernel
theorem d_Lw_law_978 : decode cc_Lw_law 978 = .ok (.iadd, 1) := by decide +kernel
theorem d_Lw_law_979 : decode cc_Lw_law 979 = .ok (.iaload, 1) := by decide +kernel
theorem d_Lw_law_980 : decode cc_Lw_law 980 = .ok (.aload_n 3, 1) := by decide +kernel
theorem d_Lw_law_981 : decode cc_Lw_law 981 = .ok (.invokestatic 124, 3) := by decide +kernel
theorem d_Lw_law_984 : decode cc_Lw_law 984 = .ok (.istore 5, 2) := by decide +kernel
theorem d_Lw_law_986 : decode cc_Lw_law 986 = .ok (.aload_n 2, 1) := by decide +kernel
theorem d_Lw_law_987 : decode cc_Lw_law 987 = .ok (.aload_n 0, 1) := by decide +kernel
theorem d_Lw_law_988 : decode cc_Lw_law 988 = .ok (.iload 4, 2) := by decide +kernel
theorem d_Lw_law_990 : decode cc_Lw_law 990 = .ok (.iconst 1, 1) := by decide +kernel
theorem d_Lw_law_991 : decode cc_Lw_law 991 = .ok (.iadd, 1) := by decide +kernel
theorem d_Lw_law_992 : decode cc_Lw_law 992 = .ok (.iaload, 1) := by decide +kernel
theorem d_Lw_law_993 : decode cc_Lw_law 993 = .ok (.invokevirtual 126, 3) := by decide +kernel
theorem d_Lw_law_996 : decode cc_Lw_law 996 = .ok (.istore 6, 2) := by decide +kernel
theorem d_Lw_law_998 : decode cc_Lw_law 998 = .ok (.aload_n 2, 1) := by decide +kernel
theorem d_Lw_law_999 : decode cc_Lw_law 999 = .ok (.invokevirtual 81, 3) := by decide +kernel
theorem d_Lw_law_1002 : decode cc_Lw_law 1002 = .ok (.iload 5, 2) := by decide +kernel
theorem d_Lw_law_1004 : decode cc_Lw_law 1004 = .ok (.if_icmp .eq 5, 3) := by decide +kernel
theorem d_Lw_law_1007 : decode cc_Lw_law 1007 = .ok (.iconst 0, 1) := by decide +kernel
theorem d_Lw_law_1008 : decode cc_Lw_law 1008 = .ok (.ireturn, 1) := by decide +kernel
theorem d_Lw_law_1009 : decode cc_Lw_law 1009 = .ok (.iload 5, 2) := by decide +kernel
theorem d_Lw_law_1011 : decode cc_Lw_law 1011 = .ok (.ifCond .ne 15, 3) := by decide +kernel
theorem d_Lw_law_1014 : decode cc_Lw_law 1014 = .ok (.aload_n 3, 1) := by decide +kernel
theorem d_Lw_law_1015 : decode cc_Lw_law 1015 = .ok (.iconst 0, 1) := by decide +kernel
theorem d_Lw_law_1016 : decode cc_Lw_law 1016 = .ok (.laload, 1) := by decide +kernel
theorem d_Lw_law_1017 : decode cc_Lw_law 1017 = .ok (.iload 6, 2) := by decide +kernel
theorem d_Lw_law_1019 : decode cc_Lw_law 1019 = .ok (.i2l, 1) := by decide +kernel
theorem d_Lw_law_1020 : decode cc_Lw_law 1020 = .ok (.lcmp, 1) := by decide +kernel
theorem d_Lw_law_1021 : decode cc_Lw_law 1021 = .ok (.ifCond .eq 5, 3) := by decide +kernel
theorem d_Lw_law_1024 : decode cc_Lw_law 1024 = .ok (.iconst 0, 1) := by decide +kernel
theorem d_Lw_law_1025 : decode cc_Lw_law 1025 = .ok (.ireturn, 1) := by decide +kernel
theorem d_Lw_law_1026 : decode cc_Lw_law 1026 = .ok (.goto 3, 3) := by decide +kernel
theorem d_Lw_law_1029 : decode cc_Lw_law 1029 = .ok (.iinc 4 6, 3) := by decide +kernel
theorem d_Lw_law_1032 : decode cc_Lw_law 1032 = .ok (.goto (-999), 3) := by decide +kernel
theorem d_Lw_law_1035 : decode cc_Lw_law 1035 = .ok (.iconst 1, 1) := by decide +kernel
theorem d_Lw_law_1036 : decode cc_Lw_law 1036 = .ok (.ireturn, 1) := by decide +kernel
theorem d_Lw_result_0 : decode cc_Lw_result 0 = .ok (.aload_n 2, 1) := by decide +kernel
theorem d_Lw_result_1 : decode cc_Lw_result 1 = .ok (.iconst 0, 1) := by decide +kernel
theorem d_Lw_result_2 : decode cc_Lw_result 2 = .ok (.aload_n 0, 1) := by decide +kernel
theorem d_Lw_result_3 : decode cc_Lw_result 3 = .ok (.iload_n 1, 1) := by decide +kernel
theorem d_Lw_result_4 : decode cc_Lw_result 4 = .ok (.invokevirtual 40, 3) := by decide +kernel
theorem d_Lw_result_7 : decode cc_Lw_result 7 = .ok (.lastore, 1) := by decide +kernel
theorem d_Lw_result_8 : decode cc_Lw_result 8 = .ok (.goto 12, 3) := by decide +kernel
theorem d_Lw_result_11 : decode cc_Lw_result 11 = .ok (.astore_n 3, 1) := by decide +kernel
theorem d_Lw_result_12 : decode cc_Lw_result 12 = .ok (.iconst 1, 1) := by decide +kernel
theorem d_Lw_result_13 : decode cc_Lw_result 13 = .ok (.ireturn, 1) := by decide +kernel
theorem d_Lw_result_14 : decode cc_Lw_result 14 = .ok (.astore_n 3, 1) := by decide +kernel
theorem d_Lw_result_15 : decode cc_Lw_result 15 = .ok (.iconst 2, 1) := by decide +kernel
theorem d_Lw_result_16 : decode cc_Lw_result 16 = .ok (.ireturn, 1) := by decide +kernel
theorem d_Lw_result_17 : decode cc_Lw_result 17 = .ok (.astore_n 3, 1) := by decide +kernel
theorem d_Lw_result_18 : decode cc_Lw_result 18 = .ok (.iconst 3, 1) := by decide +kernel
theorem d_Lw_result_19 : decode cc_Lw_result 19 = .ok (.ireturn, 1) := by decide +kernel
theorem d_Lw_result_20 : decode cc_Lw_result 20 = .ok (.iconst 0, 1) := by decide +kernel
theorem d_Lw_result_21 : decode cc_Lw_result 21 = .ok (.ireturn, 1) := by decide +kernel
theorem d_Lw_set_0 : decode cc_Lw_set 0 = .ok (.aload 5, 2) := by decide +kernel
theorem d_Lw_set_2 : decode cc_Lw_set 2 = .ok (.iconst 0, 1) := by decide +kernel
theorem d_Lw_set_3 : decode cc_Lw_set 3 = .ok (.aload_n 0, 1) := by decide +kernel
theorem d_Lw_set_4 : decode cc_Lw_set 4 = .ok (.iload_n 1, 1) := by decide +kernel
theorem d_Lw_set_5 : decode cc_Lw_set 5 = .ok (.iload_n 2, 1) := by decide +kernel
theorem d_Lw_set_6 : decode cc_Lw_set 6 = .ok (.lload_n 3, 1) := by decide +kernel
theorem d_Lw_set_7 : decode cc_Lw_set 7 = .ok (.invokevirtual 17, 3) := by decide +kernel
theorem d_Lw_set_10 : decode cc_Lw_set 10 = .ok (.lastore, 1) := by decide +kernel
theorem d_Lw_set_11 : decode cc_Lw_set 11 = .ok (.goto 11, 3) := by decide +kernel
theorem d_Lw_set_14 : decode cc_Lw_set 14 = .ok (.astore 6, 2) := by decide +kernel
theorem d_Lw_set_16 : decode cc_Lw_set 16 = .ok (.iconst 1, 1) := by decide +kernel
theorem d_Lw_set_17 : decode cc_Lw_set 17 = .ok (.ireturn, 1) := by decide +kernel
theorem d_Lw_set_18 : decode cc_Lw_set 18 = .ok (.astore 6, 2) := by decide +kernel
theorem d_Lw_set_20 : decode cc_Lw_set 20 = .ok (.iconst 2, 1) := by decide +kernel
theorem d_Lw_set_21 : decode cc_Lw_set 21 = .ok (.ireturn, 1) := by decide +kernel
theorem d_Lw_set_22 : decode cc_Lw_set 22 = .ok (.iconst 0, 1) := by decide +kernel
theorem d_Lw_set_23 : decode cc_Lw_set 23 = .ok (.ireturn, 1) := by decide +kernel
theorem d_Lw_step_0 : decode cc_Lw_step 0 = .ok (.aload_n 2, 1) := by decide +kernel
theorem d_Lw_step_1 : decode cc_Lw_step 1 = .ok (.iconst 0, 1) := by decide +kernel
theorem d_Lw_step_2 : decode cc_Lw_step 2 = .ok (.aload_n 0, 1) := by decide +kernel
theorem d_Lw_step_3 : decode cc_Lw_step 3 = .ok (.iload_n 1, 1) := by decide +kernel
theorem d_Lw_step_4 : decode cc_Lw_step 4 = .ok (.invokevirtual 31, 3) := by decide +kernel
theorem d_Lw_step_7 : decode cc_Lw_step 7 = .ok (.i2l, 1) := by decide +kernel
theorem d_Lw_step_8 : decode cc_Lw_step 8 = .ok (.lastore, 1) := by decide +kernel
theorem d_Lw_step_9 : decode cc_Lw_step 9 = .ok (.goto 6, 3) := by decide +kernel
theorem d_Lw_step_12 : decode cc_Lw_step 12 = .ok (.astore_n 3, 1) := by decide +kernel
theorem d_Lw_step_13 : decode cc_Lw_step 13 = .ok (.iconst 1, 1) := by decide +kernel
theorem d_Lw_step_14 : decode cc_Lw_step 14 = .ok (.ireturn, 1) := by decide +kernel
theorem d_Lw_step_15 : decode cc_Lw_step 15 = .ok (.iconst 0, 1) := by decide +kernel
theorem d_Lw_step_16 : decode cc_Lw_step 16 = .ok (.ireturn, 1) := by decide +kernel
theorem d_Lw_task_0 : decode cc_Lw_task 0 = .ok (.aload 4, 2) := by decide +kernel
theorem d_Lw_task_2 : decode cc_Lw_task 2 = .ok (.iconst 0, 1) := by decide +kernel
theorem d_Lw_task_3 : decode cc_Lw_task 3 = .ok (.aload_n 0, 1) := by decide +kernel
theorem d_Lw_task_4 : decode cc_Lw_task 4 = .ok (.iload_n 1, 1) := by decide +kernel
theorem d_Lw_task_5 : decode cc_Lw_task 5 = .ok (.iload_n 2, 1) := by decide +kernel
theorem d_Lw_task_6 : decode cc_Lw_task 6 = .ok (.iload_n 3, 1) := by decide +kernel
theorem d_Lw_task_7 : decode cc_Lw_task 7 = .ok (.invokevirtual 53, 3) := by decide +kernel
theorem d_Lw_task_10 : decode cc_Lw_task 10 = .ok (.i2l, 1) := by decide +kernel
theorem d_Lw_task_11 : decode cc_Lw_task 11 = .ok (.lastore, 1) := by decide +kernel
theorem d_Lw_task_12 : decode cc_Lw_task 12 = .ok (.goto 11, 3) := by decide +kernel
theorem d_Lw_task_15 : decode cc_Lw_task 15 = .ok (.astore 5, 2) := by decide +kernel
theorem d_Lw_task_17 : decode cc_Lw_task 17 = .ok (.iconst 1, 1) := by decide +kernel
theorem d_Lw_task_18 : decode cc_Lw_task 18 = .ok (.ireturn, 1) := by decide +kernel
theorem d_Lw_task_19 : decode cc_Lw_task 19 = .ok (.astore 5, 2) := by decide +kernel
theorem d_Lw_task_21 : decode cc_Lw_task 21 = .ok (.iconst 2, 1) := by decide +kernel
theorem d_Lw_task_22 : decode cc_Lw_task 22 = .ok (.ireturn, 1) := by decide +kernel
theorem d_Lw_task_23 : decode cc_Lw_task 23 = .ok (.iconst 0, 1) := by decide +kernel
theorem d_Lw_task_24 : decode cc_Lw_task 24 = .ok (.ireturn, 1) := by decide +kernel
theorem d_Lw_worker_0 : decode cc_Lw_worker 0 = .ok (.aload_n 3, 1) := by decide +kernel
theorem d_Lw_worker_1 : decode cc_Lw_worker 1 = .ok (.iconst 0, 1) := by decide +kernel
theorem d_Lw_worker_2 : decode cc_Lw_worker 2 = .ok (.aload_n 0, 1) := by decide +kernel
theorem d_Lw_worker_3 : decode cc_Lw_worker 3 = .ok (.iload_n 1, 1) := by decide +kernel
theorem d_Lw_worker_4 : decode cc_Lw_worker 4 = .ok (.iload_n 2, 1) := by decide +kernel
theorem d_Lw_worker_5 : decode cc_Lw_worker 5 = .ok (.invokevirtual 56, 3) := by decide +kernel
theorem d_Lw_worker_8 : decode cc_Lw_worker 8 = .ok (.i2l, 1) := by decide +kernel
theorem d_Lw_worker_9 : decode cc_Lw_worker 9 = .ok (.lastore, 1) := by decide +kernel
theorem d_Lw_worker_10 : decode cc_Lw_worker 10 = .ok (.goto 11, 3) := by decide +kernel
theorem d_Lw_worker_13 : decode cc_Lw_worker 13 = .ok (.astore 4, 2) := by decide +kernel
theorem d_Lw_worker_15 : decode cc_Lw_worker 15 = .ok (.iconst 1, 1) := by decide +kernel
theorem d_Lw_worker_16 : decode cc_Lw_worker 16 = .ok (.ireturn, 1) := by decide +kernel
theorem d_Lw_worker_17 : decode cc_Lw_worker 17 = .ok (.astore 4, 2) := by decide +kernel
theorem d_Lw_worker_19 : decode cc_Lw_worker 19 = .ok (.iconst 2, 1) := by decide +kernel
theorem d_Lw_worker_20 : decode cc_Lw_worker 20 = .ok (.ireturn, 1) := by decide +kernel
theorem d_Lw_worker_21 : decode cc_Lw_worker 21 = .ok (.iconst 0, 1) := by decide +kernel
theorem d_Lw_worker_22 : decode cc_Lw_worker 22 = .ok (.ireturn, 1) := by decide +kernel
end
section
theorem d_Mo_array_0 : decode cc_Mo_array 0 = .ok (.aload_n 0, 1) := by decide +kernel
theorem d_Mo_array_1 : decode cc_Mo_array 1 = .ok (.iconst 0, 1) := by decide +kernel
theorem d_Mo_array_2 : decode cc_Mo_array 2 = .ok (.putfield 96, 3) := by decide +kernel
theorem d_Mo_array_5 : decode cc_Mo_array 5 = .ok (.iload_n 1, 1) := by decide +kernel
theorem d_Mo_array_6 : decode cc_Mo_array 6 = .ok (.iconst 0, 1) := by decide +kernel
theorem d_Mo_array_7 : decode cc_Mo_array 7 = .ok (.iconst 3, 1) := by decide +kernel
theorem d_Mo_array_8 : decode cc_Mo_array 8 = .ok (.invokestatic 106, 3) := by decide +kernel
theorem d_Mo_array_11 : decode cc_Mo_array 11 = .ok (.ifCond .eq 22, 3) := by decide +kernel
theorem d_Mo_array_14 : decode cc_Mo_array 14 = .ok (.iload_n 2, 1) := by decide +kernel
theorem d_Mo_array_15 : decode cc_Mo_array 15 = .ok (.iconst 0, 1) := by decide +kernel
theorem d_Mo_array_16 : decode cc_Mo_array 16 = .ok (.iconst 5, 1) := by decide +kernel
theorem d_Mo_array_17 : decode cc_Mo_array 17 = .ok (.invokestatic 106, 3) := by decide +kernel
theorem d_Mo_array_20 : decode cc_Mo_array 20 = .ok (.ifCond .eq 13, 3) := by decide +kernel
theorem d_Mo_array_23 : decode cc_Mo_array 23 = .ok (.iload_n 3, 1) := by decide +kernel
theorem d_Mo_array_24 : decode cc_Mo_array 24 = .ok (.iconst 1, 1) := by decide +kernel
theorem d_Mo_array_25 : decode cc_Mo_array 25 = .ok (.bipush 24, 2) := by decide +kernel
theorem d_Mo_array_27 : decode cc_Mo_array 27 = .ok (.invokestatic 106, 3) := by decide +kernel
theorem d_Mo_array_30 : decode cc_Mo_array 30 = .ok (.ifCond .ne 9, 3) := by decide +kernel
theorem d_Mo_array_33 : decode cc_Mo_array 33 = .ok (.aload_n 0, 1) := by decide +kernel
theorem d_Mo_array_34 : decode cc_Mo_array 34 = .ok (.iconst 1, 1) := by decide +kernel
theorem d_Mo_array_35 : decode cc_Mo_array 35 = .ok (.invokevirtual 110, 3) := by decide +kernel
theorem d_Mo_array_38 : decode cc_Mo_array 38 = .ok (.ireturn, 1) := by decide +kernel
theorem d_Mo_array_39 : decode cc_Mo_array 39 = .ok (.aload_n 0, 1) := by decide +kernel
theorem d_Mo_array_40 : decode cc_Mo_array 40 = .ok (.iload_n 1, 1) := by decide +kernel
theorem d_Mo_array_41 : decode cc_Mo_array 41 = .ok (.invokevirtual 114, 3) := by decide +kernel
theorem d_Mo_array_44 : decode cc_Mo_array 44 = .ok (.ifCond .eq 9, 3) := by decide +kernel
theorem d_Mo_array_47 : decode cc_Mo_array 47 = .ok (.aload_n 0, 1) := by decide +kernel
theorem d_Mo_array_48 : decode cc_Mo_array 48 = .ok (.iconst 2, 1) := by decide +kernel
theorem d_Mo_array_49 : decode cc_Mo_array 49 = .ok (.invokevirtual 110, 3) := by decide +kernel
theorem d_Mo_array_52 : decode cc_Mo_array 52 = .ok (.ireturn, 1) := by decide +kernel
theorem d_Mo_array_53 : decode cc_Mo_array 53 = .ok (.aload_n 0, 1) := by decide +kernel
theorem d_Mo_array_54 : decode cc_Mo_array 54 = .ok (.getfield 7, 3) := by decide +kernel
theorem d_Mo_array_57 : decode cc_Mo_array 57 = .ok (.iload_n 1, 1) := by decide +kernel
theorem d_Mo_array_58 : decode cc_Mo_array 58 = .ok (.iload_n 2, 1) := by decide +kernel
theorem d_Mo_array_59 : decode cc_Mo_array 59 = .ok (.iastore, 1) := by decide +kernel
theorem d_Mo_array_60 : decode cc_Mo_array 60 = .ok (.aload_n 0, 1) := by decide +kernel
theorem d_Mo_array_61 : decode cc_Mo_array 61 = .ok (.getfield 13, 3) := by decide +kernel
theorem d_Mo_array_64 : decode cc_Mo_array 64 = .ok (.iload_n 1, 1) := by decide +kernel
theorem d_Mo_array_65 : decode cc_Mo_array 65 = .ok (.iload_n 3, 1) := by decide +kernel
theorem d_Mo_array_66 : decode cc_Mo_array 66 = .ok (.iastore, 1) := by decide +kernel
theorem d_Mo_array_67 : decode cc_Mo_array 67 = .ok (.iconst 0, 1) := by decide +kernel
theorem d_Mo_array_68 : decode cc_Mo_array 68 = .ok (.istore 4, 2) := by decide +kernel
theorem d_Mo_array_70 : decode cc_Mo_array 70 = .ok (.iload 4, 2) := by decide +kernel
theorem d_Mo_array_72 : decode cc_Mo_array 72 = .ok (.bipush 24, 2) := by decide +kernel
theorem d_Mo_array_74 : decode cc_Mo_array 74 = .ok (.if_icmp .ge 22, 3) := by decide +kernel
theorem d_Mo_array_77 : decode cc_Mo_array 77 = .ok (.aload_n 0, 1) := by decide +kernel
theorem d_Mo_array_78 : decode cc_Mo_array 78 = .ok (.getfield 16, 3) := by decide +kernel
theorem d_Mo_array_81 : decode cc_Mo_array 81 = .ok (.bipush 24, 2) := by decide +kernel
theorem d_Mo_array_83 : decode cc_Mo_array 83 = .ok (.iload_n 1, 1) := by decide +kernel
theorem d_Mo_array_84 : decode cc_Mo_array 84 = .ok (.imul, 1) := by decide +kernel
theorem d_Mo_array_85 : decode cc_Mo_array 85 = .ok (.iload 4, 2) := by decide +kernel
theorem d_Mo_array_87 : decode cc_Mo_array 87 = .ok (.iadd, 1) := by decide +kernel
theorem d_Mo_array_88 : decode cc_Mo_array 88 = .ok (.lconst 0, 1) := by decide +kernel
theorem d_Mo_array_89 : decode cc_Mo_array 89 = .ok (.lastore, 1) := by decide +kernel
theorem d_Mo_array_90 : decode cc_Mo_array 90 = .ok (.iinc 4 1, 3) := by decide +kernel
theorem d_Mo_array_93 : decode cc_Mo_array 93 = .ok (.goto (-23), 3) := by decide +kernel
theorem d_Mo_array_96 : decode cc_Mo_array 96 = .ok (.iload_n 3, 1) := by decide +kernel
theorem d_Mo_array_97 : decode cc_Mo_array 97 = .ok (.ireturn, 1) := by decide +kernel
theorem d_Mo_begin_0 : decode cc_Mo_begin 0 = .ok (.aload_n 0, 1) := by decide +kernel
theorem d_Mo_begin_1 : decode cc_Mo_begin 1 = .ok (.iconst 0, 1) := by decide +kernel
theorem d_Mo_begin_2 : decode cc_Mo_begin 2 = .ok (.putfield 96, 3) := by decide +kernel
theorem d_Mo_begin_5 : decode cc_Mo_begin 5 = .ok (.iload_n 2, 1) := by decide +kernel
theorem d_Mo_begin_6 : decode cc_Mo_begin 6 = .ok (.iconst 0, 1) := by decide +kernel
theorem d_Mo_begin_7 : decode cc_Mo_begin 7 = .ok (.iconst 3, 1) := by decide +kernel
theorem d_Mo_begin_8 : decode cc_Mo_begin 8 = .ok (.invokestatic 106, 3) := by decide +kernel
theorem d_Mo_begin_11 : decode cc_Mo_begin 11 = .ok (.ifCond .eq 12, 3) := by decide +kernel
theorem d_Mo_begin_14 : decode cc_Mo_begin 14 = .ok (.aload_n 0, 1) := by decide +kernel
theorem d_Mo_begin_15 : decode cc_Mo_begin 15 = .ok (.getfield 7, 3) := by decide +kernel
theorem d_Mo_begin_18 : decode cc_Mo_begin 18 = .ok (.iload_n 2, 1) := by decide +kernel
theorem d_Mo_begin_19 : decode cc_Mo_begin 19 = .ok (.iaload, 1) := by decide +kernel
theorem d_Mo_begin_20 : decode cc_Mo_begin 20 = .ok (.ifCond .ge 9, 3) := by decide +kernel
theorem d_Mo_begin_23 : decode cc_Mo_begin 23 = .ok (.aload_n 0, 1) := by decide +kernel
theorem d_Mo_begin_24 : decode cc_Mo_begin 24 = .ok (.iconst 1, 1) := by decide +kernel
theorem d_Mo_begin_25 : decode cc_Mo_begin 25 = .ok (.invokevirtual 110, 3) := by decide +kernel
theorem d_Mo_begin_28 : decode cc_Mo_begin 28 = .ok (.ireturn, 1) := by decide +kernel
theorem d_Mo_begin_29 : decode cc_Mo_begin 29 = .ok (.iload_n 1, 1) := by decide +kernel
theorem d_Mo_begin_30 : decode cc_Mo_begin 30 = .ok (.iconst 0, 1) := by decide +kernel
theorem d_Mo_begin_31 : decode cc_Mo_begin 31 = .ok (.iconst 5, 1) := by decide +kernel
theorem d_Mo_begin_32 : decode cc_Mo_begin 32 = .ok (.invokestatic 106, 3) := by decide +kernel
theorem d_Mo_begin_35 : decode cc_Mo_begin 35 = .ok (.ifCond .eq 45, 3) := by decide +kernel
theorem d_Mo_begin_38 : decode cc_Mo_begin 38 = .ok (.iload_n 3, 1) := by decide +kernel
theorem d_Mo_begin_39 : decode cc_Mo_begin 39 = .ok (.iconst 0, 1) := by decide +kernel
theorem d_Mo_begin_40 : decode cc_Mo_begin 40 = .ok (.aload_n 0, 1) := by decide +kernel
theorem d_Mo_begin_41 : decode cc_Mo_begin 41 = .ok (.getfield 93, 3) := by decide +kernel
theorem d_Mo_begin_44 : decode cc_Mo_begin 44 = .ok (.iconst 1, 1) := by decide +kernel
theorem d_Mo_begin_45 : decode cc_Mo_begin 45 = .ok (.isub, 1) := by decide +kernel
theorem d_Mo_begin_46 : decode cc_Mo_begin 46 = .ok (.invokestatic 106, 3) := by decide +kernel
theorem d_Mo_begin_49 : decode cc_Mo_begin 49 = .ok (.ifCond .eq 31, 3) := by decide +kernel
theorem d_Mo_begin_52 : decode cc_Mo_begin 52 = .ok (.iload 4, 2) := by decide +kernel
theorem d_Mo_begin_54 : decode cc_Mo_begin 54 = .ok (.sipush (-1000), 3) := by decide +kernel
theorem d_Mo_begin_57 : decode cc_Mo_begin 57 = .ok (.sipush 1000, 3) := by decide +kernel
theorem d_Mo_begin_60 : decode cc_Mo_begin 60 = .ok (.invokestatic 106, 3) := by decide +kernel
theorem d_Mo_begin_63 : decode cc_Mo_begin 63 = .ok (.ifCond .eq 17, 3) := by decide +kernel
theorem d_Mo_begin_66 : decode cc_Mo_begin 66 = .ok (.iload 5, 2) := by decide +kernel
theorem d_Mo_begin_68 : decode cc_Mo_begin 68 = .ok (.sipush (-1000), 3) := by decide +kernel
theorem d_Mo_begin_71 : decode cc_Mo_begin 71 = .ok (.sipush 1000, 3) := by decide +kernel
theorem d_Mo_begin_74 : decode cc_Mo_begin 74 = .ok (.invokestatic 106, 3) := by decide +kernel
theorem d_Mo_begin_77 : decode cc_Mo_begin 77 = .ok (.ifCond .ne 9, 3) := by decide +kernel
theorem d_Mo_begin_80 : decode cc_Mo_begin 80 = .ok (.aload_n 0, 1) := by decide +kernel
theorem d_Mo_begin_81 : decode cc_Mo_begin 81 = .ok (.iconst 2, 1) := by decide +kernel
theorem d_Mo_begin_82 : decode cc_Mo_begin 82 = .ok (.invokevirtual 110, 3) := by decide +kernel
theorem d_Mo_begin_85 : decode cc_Mo_begin 85 = .ok (.ireturn, 1) := by decide +kernel
theorem d_Mo_begin_86 : decode cc_Mo_begin 86 = .ok (.aload_n 0, 1) := by decide +kernel
theorem d_Mo_begin_87 : decode cc_Mo_begin 87 = .ok (.iload_n 2, 1) := by decide +kernel
theorem d_Mo_begin_88 : decode cc_Mo_begin 88 = .ok (.invokevirtual 114, 3) := by decide +kernel
theorem d_Mo_begin_91 : decode cc_Mo_begin 91 = .ok (.ifCond .ne 12, 3) := by decide +kernel
theorem d_Mo_begin_94 : decode cc_Mo_begin 94 = .ok (.aload_n 0, 1) := by decide +kernel
theorem d_Mo_begin_95 : decode cc_Mo_begin 95 = .ok (.getfield 103, 3) := by decide +kernel
theorem d_Mo_begin_98 : decode cc_Mo_begin 98 = .ok (.bipush 12, 2) := by decide +kernel
theorem d_Mo_begin_100 : decode cc_Mo_begin 100 = .ok (.if_icmp .ne 9, 3) := by decide +kernel
theorem d_Mo_begin_103 : decode cc_Mo_begin 103 = .ok (.aload_n 0, 1) := by decide +kernel
theorem d_Mo_begin_104 : decode cc_Mo_begin 104 = .ok (.iconst 3, 1) := by decide +kernel
theorem d_Mo_begin_105 : decode cc_Mo_begin 105 = .ok (.invokevirtual 110, 3) := by decide +kernel
theorem d_Mo_begin_108 : decode cc_Mo_begin 108 = .ok (.ireturn, 1) := by decide +kernel
theorem d_Mo_begin_109 : decode cc_Mo_begin 109 = .ok (.aload_n 0, 1) := by decide +kernel
theorem d_Mo_begin_110 : decode cc_Mo_begin 110 = .ok (.getfield 103, 3) := by decide +kernel
theorem d_Mo_begin_113 : decode cc_Mo_begin 113 = .ok (.istore 6, 2) := by decide +kernel
theorem d_Mo_begin_115 : decode cc_Mo_begin 115 = .ok (.aload_n 0, 1) := by decide +kernel
theorem d_Mo_begin_116 : decode cc_Mo_begin 116 = .ok (.dup, 1) := by decide +kernel
theorem d_Mo_begin_117 : decode cc_Mo_begin 117 = .ok (.getfield 103, 3) := by decide +kernel
theorem d_Mo_begin_120 : decode cc_Mo_begin 120 = .ok (.iconst 1, 1) := by decide +kernel
theorem d_Mo_begin_121 : decode cc_Mo_begin 121 = .ok (.iadd, 1) := by decide +kernel
theorem d_Mo_begin_122 : decode cc_Mo_begin 122 = .ok (.putfield 103, 3) := by decide +kernel
theorem d_Mo_begin_125 : decode cc_Mo_begin 125 = .ok (.aload_n 0, 1) := by decide +kernel
theorem d_Mo_begin_126 : decode cc_Mo_begin 126 = .ok (.getfield 20, 3) := by decide +kernel
theorem d_Mo_begin_129 : decode cc_Mo_begin 129 = .ok (.iload 6, 2) := by decide +kernel
theorem d_Mo_begin_131 : decode cc_Mo_begin 131 = .ok (.iload_n 1, 1) := by decide +kernel
theorem d_Mo_begin_132 : decode cc_Mo_begin 132 = .ok (.iastore, 1) := by decide +kernel
theorem d_Mo_begin_133 : decode cc_Mo_begin 133 = .ok (.aload_n 0, 1) := by decide +kernel
theorem d_Mo_begin_134 : decode cc_Mo_begin 134 = .ok (.getfield 23, 3) := by decide +kernel
theorem d_Mo_begin_137 : decode cc_Mo_begin 137 = .ok (.iload 6, 2) := by decide +kernel
theorem d_Mo_begin_139 : decode cc_Mo_begin 139 = .ok (.iload_n 2, 1) := by decide +kernel
theorem d_Mo_begin_140 : decode cc_Mo_begin 140 = .ok (.iastore, 1) := by decide +kernel
theorem d_Mo_begin_141 : decode cc_Mo_begin 141 = .ok (.aload_n 0, 1) := by decide +kernel
theorem d_Mo_begin_142 : decode cc_Mo_begin 142 = .ok (.getfield 26, 3) := by decide +kernel
theorem d_Mo_begin_145 : decode cc_Mo_begin 145 = .ok (.iload 6, 2) := by decide +kernel
theorem d_Mo_begin_147 : decode cc_Mo_begin 147 = .ok (.iload 4, 2) := by decide +kernel
theorem d_Mo_begin_149 : decode cc_Mo_begin 149 = .ok (.iastore, 1) := by decide +kernel
theorem d_Mo_begin_150 : decode cc_Mo_begin 150 = .ok (.aload_n 0, 1) := by decide +kernel
theorem d_Mo_begin_151 : decode cc_Mo_begin 151 = .ok (.getfield 29, 3) := by decide +kernel
theorem d_Mo_begin_154 : decode cc_Mo_begin 154 = .ok (.iload 6, 2) := by decide +kernel
theorem d_Mo_begin_156 : decode cc_Mo_begin 156 = .ok (.iload 5, 2) := by decide +kernel
theorem d_Mo_begin_158 : decode cc_Mo_begin 158 = .ok (.iastore, 1) := by decide +kernel
theorem d_Mo_begin_159 : decode cc_Mo_begin 159 = .ok (.aload_n 0, 1) := by decide +kernel
theorem d_Mo_begin_160 : decode cc_Mo_begin 160 = .ok (.getfield 35, 3) := by decide +kernel
theorem d_Mo_begin_163 : decode cc_Mo_begin 163 = .ok (.iload 6, 2) := by decide +kernel
theorem d_Mo_begin_165 : decode cc_Mo_begin 165 = .ok (.iconst (-1), 1) := by decide +kernel
theorem d_Mo_begin_166 : decode cc_Mo_begin 166 = .ok (.iastore, 1) := by decide +kernel
theorem d_Mo_begin_167 : decode cc_Mo_begin 167 = .ok (.aload_n 0, 1) := by decide +kernel
theorem d_Mo_begin_168 : decode cc_Mo_begin 168 = .ok (.getfield 44, 3) := by decide +kernel
theorem d_Mo_begin_171 : decode cc_Mo_begin 171 = .ok (.iload 6, 2) := by decide +kernel
theorem d_Mo_begin_173 : decode cc_Mo_begin 173 = .ok (.iconst 1, 1) := by decide +kernel
theorem d_Mo_begin_174 : decode cc_Mo_begin 174 = .ok (.iastore, 1) := by decide +kernel
theorem d_Mo_begin_175 : decode cc_Mo_begin 175 = .ok (.aload_n 0, 1) := by decide +kernel
theorem d_Mo_begin_176 : decode cc_Mo_begin 176 = .ok (.getfield 41, 3) := by decide +kernel
theorem d_Mo_begin_179 : decode cc_Mo_begin 179 = .ok (.iload 6, 2) := by decide +kernel
theorem d_Mo_begin_181 : decode cc_Mo_begin 181 = .ok (.aload_n 0, 1) := by decide +kernel
theorem d_Mo_begin_182 : decode cc_Mo_begin 182 = .ok (.iload 6, 2) := by decide +kernel
theorem d_Mo_begin_184 : decode cc_Mo_begin 184 = .ok (.iconst 0, 1) := by decide +kernel
theorem d_Mo_begin_185 : decode cc_Mo_begin 185 = .ok (.aload_n 0, 1) := by decide +kernel
theorem d_Mo_begin_186 : decode cc_Mo_begin 186 = .ok (.getfield 13, 3) := by decide +kernel
theorem d_Mo_begin_189 : decode cc_Mo_begin 189 = .ok (.iload_n 2, 1) := by decide +kernel
theorem d_Mo_begin_190 : decode cc_Mo_begin 190 = .ok (.iaload, 1) := by decide +kernel
theorem d_Mo_begin_191 : decode cc_Mo_begin 191 = .ok (.iconst (-1), 1) := by decide +kernel
theorem d_Mo_begin_192 : decode cc_Mo_begin 192 = .ok (.invokevirtual 133, 3) := by decide +kernel
theorem d_Mo_begin_195 : decode cc_Mo_begin 195 = .ok (.iastore, 1) := by decide +kernel
theorem d_Mo_begin_196 : decode cc_Mo_begin 196 = .ok (.aload_n 0, 1) := by decide +kernel
theorem d_Mo_begin_197 : decode cc_Mo_begin 197 = .ok (.iload_n 3, 1) := by decide +kernel
theorem d_Mo_begin_198 : decode cc_Mo_begin 198 = .ok (.aload_n 0, 1) := by decide +kernel
theorem d_Mo_begin_199 : decode cc_Mo_begin 199 = .ok (.getfield 41, 3) := by decide +kernel
theorem d_Mo_begin_202 : decode cc_Mo_begin 202 = .ok (.iload 6, 2) := by decide +kernel
theorem d_Mo_begin_204 : decode cc_Mo_begin 204 = .ok (.iaload, 1) := by decide +kernel
theorem d_Mo_begin_205 : decode cc_Mo_begin 205 = .ok (.invokevirtual 137, 3) := by decide +kernel
theorem d_Mo_begin_208 : decode cc_Mo_begin 208 = .ok (.iload 6, 2) := by decide +kernel
theorem d_Mo_begin_210 : decode cc_Mo_begin 210 = .ok (.ireturn, 1) := by decide +kernel
theorem d_Mo_busy_0 : decode cc_Mo_busy 0 = .ok (.iconst 0, 1) := by decide +kernel
theorem d_Mo_busy_1 : decode cc_Mo_busy 1 = .ok (.istore_n 2, 1) := by decide +kernel
theorem d_Mo_busy_2 : decode cc_Mo_busy 2 = .ok (.iload_n 2, 1) := by decide +kernel
theorem d_Mo_busy_3 : decode cc_Mo_busy 3 = .ok (.aload_n 0, 1) := by decide +kernel
theorem d_Mo_busy_4 : decode cc_Mo_busy 4 = .ok (.getfield 103, 3) := by decide +kernel
theorem d_Mo_busy_7 : decode cc_Mo_busy 7 = .ok (.if_icmp .ge 30, 3) := by decide +kernel
theorem d_Mo_busy_10 : decode cc_Mo_busy 10 = .ok (.aload_n 0, 1) := by decide +kernel
theorem d_Mo_busy_11 : decode cc_Mo_busy 11 = .ok (.getfield 23, 3) := by decide +kernel
theorem d_Mo_busy_14 : decode cc_Mo_busy 14 = .ok (.iload_n 2, 1) := by decide +kernel
theorem d_Mo_busy_15 : decode cc_Mo_busy 15 = .ok (.iaload, 1) := by decide +kernel
theorem d_Mo_busy_16 : decode cc_Mo_busy 16 = .ok (.iload_n 1, 1) := by decide +kernel
theorem d_Mo_busy_17 : decode cc_Mo_busy 17 = .ok (.if_icmp .ne 14, 3) := by decide +kernel
theorem d_Mo_busy_20 : decode cc_Mo_busy 20 = .ok (.aload_n 0, 1) := by decide +kernel
theorem d_Mo_busy_21 : decode cc_Mo_busy 21 = .ok (.getfield 32, 3) := by decide +kernel
theorem d_Mo_busy_24 : decode cc_Mo_busy 24 = .ok (.iload_n 2, 1) := by decide +kernel
theorem d_Mo_busy_25 : decode cc_Mo_busy 25 = .ok (.iaload, 1) := by decide +kernel
theorem d_Mo_busy_26 : decode cc_Mo_busy 26 = .ok (.ifCond .ne 5, 3) := by decide +kernel
theorem d_Mo_busy_29 : decode cc_Mo_busy 29 = .ok (.iconst 1, 1) := by decide +kernel
theorem d_Mo_busy_30 : decode cc_Mo_busy 30 = .ok (.ireturn, 1) := by decide +kernel
theorem d_Mo_busy_31 : decode cc_Mo_busy 31 = .ok (.iinc 2 1, 3) := by decide +kernel
theorem d_Mo_busy_34 : decode cc_Mo_busy 34 = .ok (.goto (-32), 3) := by decide +kernel
theorem d_Mo_busy_37 : decode cc_Mo_busy 37 = .ok (.iconst 0, 1) := by decide +kernel
theorem d_Mo_busy_38 : decode cc_Mo_busy 38 = .ok (.ireturn, 1) := by decide +kernel
theorem d_Mo_cancel_0 : decode cc_Mo_cancel 0 = .ok (.aload_n 0, 1) := by decide +kernel
theorem d_Mo_cancel_1 : decode cc_Mo_cancel 1 = .ok (.iconst 0, 1) := by decide +kernel
theorem d_Mo_cancel_2 : decode cc_Mo_cancel 2 = .ok (.putfield 96, 3) := by decide +kernel
theorem d_Mo_cancel_5 : decode cc_Mo_cancel 5 = .ok (.aload_n 0, 1) := by decide +kernel
theorem d_Mo_cancel_6 : decode cc_Mo_cancel 6 = .ok (.iload_n 1, 1) := by decide +kernel
theorem d_Mo_cancel_7 : decode cc_Mo_cancel 7 = .ok (.invokevirtual 196, 3) := by decide +kernel
theorem d_Mo_cancel_10 : decode cc_Mo_cancel 10 = .ok (.ifCond .eq 9, 3) := by decide +kernel
theorem d_Mo_cancel_13 : decode cc_Mo_cancel 13 = .ok (.aload_n 0, 1) := by decide +kernel
theorem d_Mo_cancel_14 : decode cc_Mo_cancel 14 = .ok (.iconst 1, 1) := by decide +kernel
theorem d_Mo_cancel_15 : decode cc_Mo_cancel 15 = .ok (.invokevirtual 110, 3) := by decide +kernel
theorem d_Mo_cancel_18 : decode cc_Mo_cancel 18 = .ok (.ireturn, 1) := by decide +kernel
theorem d_Mo_cancel_19 : decode cc_Mo_cancel 19 = .ok (.aload_n 0, 1) := by decide +kernel
theorem d_Mo_cancel_20 : decode cc_Mo_cancel 20 = .ok (.getfield 32, 3) := by decide +kernel
theorem d_Mo_cancel_23 : decode cc_Mo_cancel 23 = .ok (.iload_n 1, 1) := by decide +kernel
theorem d_Mo_cancel_24 : decode cc_Mo_cancel 24 = .ok (.iaload, 1) := by decide +kernel
theorem d_Mo_cancel_25 : decode cc_Mo_cancel 25 = .ok (.ifCond .eq 9, 3) := by decide +kernel
theorem d_Mo_cancel_28 : decode cc_Mo_cancel 28 = .ok (.aload_n 0, 1) := by decide +kernel
theorem d_Mo_cancel_29 : decode cc_Mo_cancel 29 = .ok (.iconst 2, 1) := by decide +kernel
theorem d_Mo_cancel_30 : decode cc_Mo_cancel 30 = .ok (.invokevirtual 110, 3) := by decide +kernel
theorem d_Mo_cancel_33 : decode cc_Mo_cancel 33 = .ok (.ireturn, 1) := by decide +kernel
theorem d_Mo_cancel_34 : decode cc_Mo_cancel 34 = .ok (.aload_n 0, 1) := by decide +kernel
theorem d_Mo_cancel_35 : decode cc_Mo_cancel 35 = .ok (.iload_n 1, 1) := by decide +kernel
theorem d_Mo_cancel_36 : decode cc_Mo_cancel 36 = .ok (.invokevirtual 199, 3) := by decide +kernel
theorem d_Mo_cancel_39 : decode cc_Mo_cancel 39 = .ok (.istore_n 2, 1) := by decide +kernel
theorem d_Mo_cancel_40 : decode cc_Mo_cancel 40 = .ok (.aload_n 0, 1) := by decide +kernel
theorem d_Mo_cancel_41 : decode cc_Mo_cancel 41 = .ok (.iload_n 1, 1) := by decide +kernel
theorem d_Mo_cancel_42 : decode cc_Mo_cancel 42 = .ok (.iconst (-1), 1) := by decide +kernel
theorem d_Mo_cancel_43 : decode cc_Mo_cancel 43 = .ok (.invokevirtual 165, 3) := by decide +kernel
theorem d_Mo_cancel_46 : decode cc_Mo_cancel 46 = .ok (.iload_n 2, 1) := by decide +kernel
theorem d_Mo_cancel_47 : decode cc_Mo_cancel 47 = .ok (.ireturn, 1) := by decide +kernel
theorem d_Mo_count_0 : decode cc_Mo_count 0 = .ok (.aload_n 0, 1) := by decide +kernel
theorem d_Mo_count_1 : decode cc_Mo_count 1 = .ok (.iconst 0, 1) := by decide +kernel
theorem d_Mo_count_2 : decode cc_Mo_count 2 = .ok (.putfield 96, 3) := by decide +kernel
theorem d_Mo_count_5 : decode cc_Mo_count 5 = .ok (.iload_n 1, 1) := by decide +kernel
theorem d_Mo_count_6 : decode cc_Mo_count 6 = .ok (.tableswitch 50 0 3 #[30, 35, 40, 45], 30) := by decide +kernel
theorem d_Mo_count_36 : decode cc_Mo_count 36 = .ok (.aload_n 0, 1) := by decide +kernel
theorem d_Mo_count_37 : decode cc_Mo_count 37 = .ok (.getfield 103, 3) := by decide +kernel
theorem d_Mo_count_40 : decode cc_Mo_count 40 = .ok (.ireturn, 1) := by decide +kernel
theorem d_Mo_count_41 : decode cc_Mo_count 41 = .ok (.aload_n 0, 1) := by decide +kernel
theorem d_Mo_count_42 : decode cc_Mo_count 42 = .ok (.getfield 186, 3) := by decide +kernel
theorem d_Mo_count_45 : decode cc_Mo_count 45 = .ok (.ireturn, 1) := by decide +kernel
theorem d_Mo_count_46 : decode cc_Mo_count 46 = .ok (.aload_n 0, 1) := by decide +kernel
theorem d_Mo_count_47 : decode cc_Mo_count 47 = .ok (.getfield 183, 3) := by decide +kernel
theorem d_Mo_count_50 : decode cc_Mo_count 50 = .ok (.ireturn, 1) := by decide +kernel
theorem d_Mo_count_51 : decode cc_Mo_count 51 = .ok (.aload_n 0, 1) := by decide +kernel
theorem d_Mo_count_52 : decode cc_Mo_count 52 = .ok (.getfield 93, 3) := by decide +kernel
theorem d_Mo_count_55 : decode cc_Mo_count 55 = .ok (.ireturn, 1) := by decide +kernel
theorem d_Mo_count_56 : decode cc_Mo_count 56 = .ok (.aload_n 0, 1) := by decide +kernel
theorem d_Mo_count_57 : decode cc_Mo_count 57 = .ok (.iconst 1, 1) := by decide +kernel
theorem d_Mo_count_58 : decode cc_Mo_count 58 = .ok (.invokevirtual 110, 3) := by decide +kernel
theorem d_Mo_count_61 : decode cc_Mo_count 61 = .ok (.ireturn, 1) := by decide +kernel
theorem d_Mo_down_0 : decode cc_Mo_down 0 = .ok (.lload_n 0, 1) := by decide +kernel
theorem d_Mo_down_1 : decode cc_Mo_down 1 = .ok (.lload_n 2, 1) := by decide +kernel
theorem d_Mo_down_2 : decode cc_Mo_down 2 = .ok (.ldiv, 1) := by decide +kernel
theorem d_Mo_down_3 : decode cc_Mo_down 3 = .ok (.lload_n 0, 1) := by decide +kernel
theorem d_Mo_down_4 : decode cc_Mo_down 4 = .ok (.lload_n 2, 1) := by decide +kernel
theorem d_Mo_down_5 : decode cc_Mo_down 5 = .ok (.lrem, 1) := by decide +kernel
theorem d_Mo_down_6 : decode cc_Mo_down 6 = .ok (.lconst 0, 1) := by decide +kernel
theorem d_Mo_down_7 : decode cc_Mo_down 7 = .ok (.lcmp, 1) := by decide +kernel
theorem d_Mo_down_8 : decode cc_Mo_down 8 = .ok (.ifCond .eq 32, 3) := by decide +kernel
theorem d_Mo_down_11 : decode cc_Mo_down 11 = .ok (.lload_n 0, 1) := by decide +kernel
theorem d_Mo_down_12 : decode cc_Mo_down 12 = .ok (.lconst 0, 1) := by decide +kernel
theorem d_Mo_down_13 : decode cc_Mo_down 13 = .ok (.lcmp, 1) := by decide +kernel
theorem d_Mo_down_14 : decode cc_Mo_down 14 = .ok (.ifCond .ge 7, 3) := by decide +kernel
theorem d_Mo_down_17 : decode cc_Mo_down 17 = .ok (.iconst 1, 1) := by decide +kernel
theorem d_Mo_down_18 : decode cc_Mo_down 18 = .ok (.goto 4, 3) := by decide +kernel
theorem d_Mo_down_21 : decode cc_Mo_down 21 = .ok (.iconst 0, 1) := by decide +kernel
theorem d_Mo_down_22 : decode cc_Mo_down 22 = .ok (.lload_n 2, 1) := by decide +kernel
theorem d_Mo_down_23 : decode cc_Mo_down 23 = .ok (.lconst 0, 1) := by decide +kernel
theorem d_Mo_down_24 : decode cc_Mo_down 24 = .ok (.lcmp, 1) := by decide +kernel
theorem d_Mo_down_25 : decode cc_Mo_down 25 = .ok (.ifCond .ge 7, 3) := by decide +kernel
theorem d_Mo_down_28 : decode cc_Mo_down 28 = .ok (.iconst 1, 1) := by decide +kernel
theorem d_Mo_down_29 : decode cc_Mo_down 29 = .ok (.goto 4, 3) := by decide +kernel
theorem d_Mo_down_32 : decode cc_Mo_down 32 = .ok (.iconst 0, 1) := by decide +kernel
theorem d_Mo_down_33 : decode cc_Mo_down 33 = .ok (.if_icmp .eq 7, 3) := by decide +kernel
theorem d_Mo_down_36 : decode cc_Mo_down 36 = .ok (.iconst 1, 1) := by decide +kernel
theorem d_Mo_down_37 : decode cc_Mo_down 37 = .ok (.goto 4, 3) := by decide +kernel
theorem d_Mo_down_40 : decode cc_Mo_down 40 = .ok (.iconst 0, 1) := by decide +kernel
theorem d_Mo_down_41 : decode cc_Mo_down 41 = .ok (.i2l, 1) := by decide +kernel
theorem d_Mo_down_42 : decode cc_Mo_down 42 = .ok (.lsub, 1) := by decide +kernel
theorem d_Mo_down_43 : decode cc_Mo_down 43 = .ok (.lreturn, 1) := by decide +kernel
theorem d_Mo_end_0 : decode cc_Mo_end 0 = .ok (.aload_n 0, 1) := by decide +kernel
theorem d_Mo_end_1 : decode cc_Mo_end 1 = .ok (.getfield 32, 3) := by decide +kernel
theorem d_Mo_end_4 : decode cc_Mo_end 4 = .ok (.iload_n 1, 1) := by decide +kernel
theorem d_Mo_end_5 : decode cc_Mo_end 5 = .ok (.iconst 2, 1) := by decide +kernel
theorem d_Mo_end_6 : decode cc_Mo_end 6 = .ok (.iastore, 1) := by decide +kernel
theorem d_Mo_end_7 : decode cc_Mo_end 7 = .ok (.aload_n 0, 1) := by decide +kernel
theorem d_Mo_end_8 : decode cc_Mo_end 8 = .ok (.getfield 35, 3) := by decide +kernel
theorem d_Mo_end_11 : decode cc_Mo_end 11 = .ok (.iload_n 1, 1) := by decide +kernel
theorem d_Mo_end_12 : decode cc_Mo_end 12 = .ok (.iload_n 2, 1) := by decide +kernel
theorem d_Mo_end_13 : decode cc_Mo_end 13 = .ok (.iastore, 1) := by decide +kernel
theorem d_Mo_end_14 : decode cc_Mo_end 14 = .ok (.iconst 0, 1) := by decide +kernel
theorem d_Mo_end_15 : decode cc_Mo_end 15 = .ok (.istore_n 3, 1) := by decide +kernel
theorem d_Mo_end_16 : decode cc_Mo_end 16 = .ok (.iload_n 3, 1) := by decide +kernel
theorem d_Mo_end_17 : decode cc_Mo_end 17 = .ok (.aload_n 0, 1) := by decide +kernel
theorem d_Mo_end_18 : decode cc_Mo_end 18 = .ok (.getfield 93, 3) := by decide +kernel
theorem d_Mo_end_21 : decode cc_Mo_end 21 = .ok (.if_icmp .ge 62, 3) := by decide +kernel
theorem d_Mo_end_24 : decode cc_Mo_end 24 = .ok (.iconst 0, 1) := by decide +kernel
theorem d_Mo_end_25 : decode cc_Mo_end 25 = .ok (.istore 4, 2) := by decide +kernel
theorem d_Mo_end_27 : decode cc_Mo_end 27 = .ok (.iload 4, 2) := by decide +kernel
theorem d_Mo_end_29 : decode cc_Mo_end 29 = .ok (.aload_n 0, 1) := by decide +kernel
theorem d_Mo_end_30 : decode cc_Mo_end 30 = .ok (.getfield 74, 3) := by decide +kernel
theorem d_Mo_end_33 : decode cc_Mo_end 33 = .ok (.iload_n 3, 1) := by decide +kernel
theorem d_Mo_end_34 : decode cc_Mo_end 34 = .ok (.iaload, 1) := by decide +kernel
theorem d_Mo_end_35 : decode cc_Mo_end 35 = .ok (.if_icmp .ge 42, 3) := by decide +kernel
theorem d_Mo_end_38 : decode cc_Mo_end 38 = .ok (.aload_n 0, 1) := by decide +kernel
theorem d_Mo_end_39 : decode cc_Mo_end 39 = .ok (.getfield 47, 3) := by decide +kernel
theorem d_Mo_end_42 : decode cc_Mo_end 42 = .ok (.aload_n 0, 1) := by decide +kernel
theorem d_Mo_end_43 : decode cc_Mo_end 43 = .ok (.getfield 71, 3) := by decide +kernel
theorem d_Mo_end_46 : decode cc_Mo_end 46 = .ok (.sipush 600, 3) := by decide +kernel
theorem d_Mo_end_49 : decode cc_Mo_end 49 = .ok (.iload_n 3, 1) := by decide +kernel
theorem d_Mo_end_50 : decode cc_Mo_end 50 = .ok (.imul, 1) := by decide +kernel
theorem d_Mo_end_51 : decode cc_Mo_end 51 = .ok (.iload 4, 2) := by decide +kernel
theorem d_Mo_end_53 : decode cc_Mo_end 53 = .ok (.iadd, 1) := by decide +kernel
theorem d_Mo_end_54 : decode cc_Mo_end 54 = .ok (.iaload, 1) := by decide +kernel
theorem d_Mo_end_55 : decode cc_Mo_end 55 = .ok (.iaload, 1) := by decide +kernel
theorem d_Mo_end_56 : decode cc_Mo_end 56 = .ok (.iload_n 1, 1) := by decide +kernel
theorem d_Mo_end_57 : decode cc_Mo_end 57 = .ok (.if_icmp .ne 14, 3) := by decide +kernel
theorem d_Mo_end_60 : decode cc_Mo_end 60 = .ok (.aload_n 0, 1) := by decide +kernel
theorem d_Mo_end_61 : decode cc_Mo_end 61 = .ok (.iload_n 3, 1) := by decide +kernel
theorem d_Mo_end_62 : decode cc_Mo_end 62 = .ok (.iload 4, 2) := by decide +kernel
theorem d_Mo_end_64 : decode cc_Mo_end 64 = .ok (.invokevirtual 126, 3) := by decide +kernel
theorem d_Mo_end_67 : decode cc_Mo_end 67 = .ok (.pop, 1) := by decide +kernel
theorem d_Mo_end_68 : decode cc_Mo_end 68 = .ok (.goto (-41), 3) := by decide +kernel
theorem d_Mo_end_71 : decode cc_Mo_end 71 = .ok (.iinc 4 1, 3) := by decide +kernel
theorem d_Mo_end_74 : decode cc_Mo_end 74 = .ok (.goto (-47), 3) := by decide +kernel
theorem d_Mo_end_77 : decode cc_Mo_end 77 = .ok (.iinc 3 1, 3) := by decide +kernel
theorem d_Mo_end_80 : decode cc_Mo_end 80 = .ok (.goto (-64), 3) := by decide +kernel
theorem d_Mo_end_83 : decode cc_Mo_end 83 = .ok (.return_, 1) := by decide +kernel
theorem d_Mo_finished_0 : decode cc_Mo_finished 0 = .ok (.iload_n 1, 1) := by decide +kernel
theorem d_Mo_finished_1 : decode cc_Mo_finished 1 = .ok (.istore_n 3, 1) := by decide +kernel
theorem d_Mo_finished_2 : decode cc_Mo_finished 2 = .ok (.aload_n 0, 1) := by decide +kernel
theorem d_Mo_finished_3 : decode cc_Mo_finished 3 = .ok (.getfield 47, 3) := by decide +kernel
theorem d_Mo_finished_6 : decode cc_Mo_finished 6 = .ok (.iload_n 1, 1) := by decide +kernel
theorem d_Mo_finished_7 : decode cc_Mo_finished 7 = .ok (.iaload, 1) := by decide +kernel
theorem d_Mo_finished_8 : decode cc_Mo_finished 8 = .ok (.istore 4, 2) := by decide +kernel
theorem d_Mo_finished_10 : decode cc_Mo_finished 10 = .ok (.aload_n 0, 1) := by decide +kernel
theorem d_Mo_finished_11 : decode cc_Mo_finished 11 = .ok (.getfield 56, 3) := by decide +kernel
theorem d_Mo_finished_14 : decode cc_Mo_finished 14 = .ok (.iload_n 3, 1) := by decide +kernel
theorem d_Mo_finished_15 : decode cc_Mo_finished 15 = .ok (.iaload, 1) := by decide +kernel
theorem d_Mo_finished_16 : decode cc_Mo_finished 16 = .ok (.ifCond .lt 129, 3) := by decide +kernel
theorem d_Mo_finished_19 : decode cc_Mo_finished 19 = .ok (.aload_n 0, 1) := by decide +kernel
theorem d_Mo_finished_20 : decode cc_Mo_finished 20 = .ok (.getfield 56, 3) := by decide +kernel
theorem d_Mo_finished_23 : decode cc_Mo_finished 23 = .ok (.iload_n 3, 1) := by decide +kernel
theorem d_Mo_finished_24 : decode cc_Mo_finished 24 = .ok (.iaload, 1) := by decide +kernel
theorem d_Mo_finished_25 : decode cc_Mo_finished 25 = .ok (.istore_n 3, 1) := by decide +kernel
theorem d_Mo_finished_26 : decode cc_Mo_finished 26 = .ok (.aload_n 0, 1) := by decide +kernel
theorem d_Mo_finished_27 : decode cc_Mo_finished 27 = .ok (.getfield 62, 3) := by decide +kernel
theorem d_Mo_finished_30 : decode cc_Mo_finished 30 = .ok (.iload_n 3, 1) := by decide +kernel
theorem d_Mo_finished_31 : decode cc_Mo_finished 31 = .ok (.dup2, 1) := by decide +kernel
theorem d_Mo_finished_32 : decode cc_Mo_finished 32 = .ok (.iaload, 1) := by decide +kernel
theorem d_Mo_finished_33 : decode cc_Mo_finished 33 = .ok (.iconst 1, 1) := by decide +kernel
theorem d_Mo_finished_34 : decode cc_Mo_finished 34 = .ok (.iadd, 1) := by decide +kernel
theorem d_Mo_finished_35 : decode cc_Mo_finished 35 = .ok (.iastore, 1) := by decide +kernel
theorem d_Mo_finished_36 : decode cc_Mo_finished 36 = .ok (.aload_n 0, 1) := by decide +kernel
theorem d_Mo_finished_37 : decode cc_Mo_finished 37 = .ok (.getfield 62, 3) := by decide +kernel
theorem d_Mo_finished_40 : decode cc_Mo_finished 40 = .ok (.iload_n 3, 1) := by decide +kernel
theorem d_Mo_finished_41 : decode cc_Mo_finished 41 = .ok (.iaload, 1) := by decide +kernel
theorem d_Mo_finished_42 : decode cc_Mo_finished 42 = .ok (.iconst 2, 1) := by decide +kernel
theorem d_Mo_finished_43 : decode cc_Mo_finished 43 = .ok (.if_icmp .ge 4, 3) := by decide +kernel
theorem d_Mo_finished_46 : decode cc_Mo_finished 46 = .ok (.return_, 1) := by decide +kernel
theorem d_Mo_finished_47 : decode cc_Mo_finished 47 = .ok (.aload_n 0, 1) := by decide +kernel
theorem d_Mo_finished_48 : decode cc_Mo_finished 48 = .ok (.getfield 44, 3) := by decide +kernel
theorem d_Mo_finished_51 : decode cc_Mo_finished 51 = .ok (.iload 4, 2) := by decide +kernel
theorem d_Mo_finished_53 : decode cc_Mo_finished 53 = .ok (.iaload, 1) := by decide +kernel
theorem d_Mo_finished_54 : decode cc_Mo_finished 54 = .ok (.iconst 1, 1) := by decide +kernel
theorem d_Mo_finished_55 : decode cc_Mo_finished 55 = .ok (.if_icmp .ne 50, 3) := by decide +kernel
theorem d_Mo_finished_58 : decode cc_Mo_finished 58 = .ok (.aload_n 0, 1) := by decide +kernel
theorem d_Mo_finished_59 : decode cc_Mo_finished 59 = .ok (.getfield 20, 3) := by decide +kernel
theorem d_Mo_finished_62 : decode cc_Mo_finished 62 = .ok (.iload 4, 2) := by decide +kernel
theorem d_Mo_finished_64 : decode cc_Mo_finished 64 = .ok (.iaload, 1) := by decide +kernel
theorem d_Mo_finished_65 : decode cc_Mo_finished 65 = .ok (.iconst 3, 1) := by decide +kernel
theorem d_Mo_finished_66 : decode cc_Mo_finished 66 = .ok (.if_icmp .ge 39, 3) := by decide +kernel
theorem d_Mo_finished_69 : decode cc_Mo_finished 69 = .ok (.aload_n 0, 1) := by decide +kernel
theorem d_Mo_finished_70 : decode cc_Mo_finished 70 = .ok (.getfield 65, 3) := by decide +kernel
theorem d_Mo_finished_73 : decode cc_Mo_finished 73 = .ok (.iload_n 3, 1) := by decide +kernel
theorem d_Mo_finished_74 : decode cc_Mo_finished 74 = .ok (.aload_n 0, 1) := by decide +kernel
theorem d_Mo_finished_75 : decode cc_Mo_finished 75 = .ok (.iload 4, 2) := by decide +kernel
theorem d_Mo_finished_77 : decode cc_Mo_finished 77 = .ok (.aload_n 0, 1) := by decide +kernel
theorem d_Mo_finished_78 : decode cc_Mo_finished 78 = .ok (.getfield 65, 3) := by decide +kernel
theorem d_Mo_finished_81 : decode cc_Mo_finished 81 = .ok (.aload_n 0, 1) := by decide +kernel
theorem d_Mo_finished_82 : decode cc_Mo_finished 82 = .ok (.getfield 59, 3) := by decide +kernel
theorem d_Mo_finished_85 : decode cc_Mo_finished 85 = .ok (.iload_n 3, 1) := by decide +kernel
theorem d_Mo_finished_86 : decode cc_Mo_finished 86 = .ok (.iaload, 1) := by decide +kernel
theorem d_Mo_finished_87 : decode cc_Mo_finished 87 = .ok (.laload, 1) := by decide +kernel
theorem d_Mo_finished_88 : decode cc_Mo_finished 88 = .ok (.aload_n 0, 1) := by decide +kernel
theorem d_Mo_finished_89 : decode cc_Mo_finished 89 = .ok (.getfield 65, 3) := by decide +kernel
theorem d_Mo_finished_92 : decode cc_Mo_finished 92 = .ok (.aload_n 0, 1) := by decide +kernel
theorem d_Mo_finished_93 : decode cc_Mo_finished 93 = .ok (.getfield 59, 3) := by decide +kernel
theorem d_Mo_finished_96 : decode cc_Mo_finished 96 = .ok (.iload_n 3, 1) := by decide +kernel
theorem d_Mo_finished_97 : decode cc_Mo_finished 97 = .ok (.iaload, 1) := by decide +kernel
theorem d_Mo_finished_98 : decode cc_Mo_finished 98 = .ok (.iconst 1, 1) := by decide +kernel
theorem d_Mo_finished_99 : decode cc_Mo_finished 99 = .ok (.iadd, 1) := by decide +kernel
theorem d_Mo_finished_100 : decode cc_Mo_finished 100 = .ok (.laload, 1) := by decide +kernel
theorem d_Mo_finished_101 : decode cc_Mo_finished 101 = .ok (.invokevirtual 149, 3) := by decide +kernel
theorem d_Mo_finished_104 : decode cc_Mo_finished 104 = .ok (.lastore, 1) := by decide +kernel
theorem d_Mo_finished_105 : decode cc_Mo_finished 105 = .ok (.aload_n 0, 1) := by decide +kernel
theorem d_Mo_finished_106 : decode cc_Mo_finished 106 = .ok (.getfield 20, 3) := by decide +kernel
theorem d_Mo_finished_109 : decode cc_Mo_finished 109 = .ok (.iload 4, 2) := by decide +kernel
theorem d_Mo_finished_111 : decode cc_Mo_finished 111 = .ok (.iaload, 1) := by decide +kernel
theorem d_Mo_finished_112 : decode cc_Mo_finished 112 = .ok (.iconst 3, 1) := by decide +kernel
theorem d_Mo_finished_113 : decode cc_Mo_finished 113 = .ok (.if_icmp .ne (-103), 3) := by decide +kernel
theorem d_Mo_finished_116 : decode cc_Mo_finished 116 = .ok (.aload_n 0, 1) := by decide +kernel
theorem d_Mo_finished_117 : decode cc_Mo_finished 117 = .ok (.bipush 24, 2) := by decide +kernel
theorem d_Mo_finished_119 : decode cc_Mo_finished 119 = .ok (.aload_n 0, 1) := by decide +kernel
theorem d_Mo_finished_120 : decode cc_Mo_finished 120 = .ok (.getfield 23, 3) := by decide +kernel
theorem d_Mo_finished_123 : decode cc_Mo_finished 123 = .ok (.iload 4, 2) := by decide +kernel
theorem d_Mo_finished_125 : decode cc_Mo_finished 125 = .ok (.iaload, 1) := by decide +kernel
theorem d_Mo_finished_126 : decode cc_Mo_finished 126 = .ok (.imul, 1) := by decide +kernel
theorem d_Mo_finished_127 : decode cc_Mo_finished 127 = .ok (.aload_n 0, 1) := by decide +kernel
theorem d_Mo_finished_128 : decode cc_Mo_finished 128 = .ok (.getfield 50, 3) := by decide +kernel
theorem d_Mo_finished_131 : decode cc_Mo_finished 131 = .ok (.iload_n 3, 1) := by decide +kernel
theorem d_Mo_finished_132 : decode cc_Mo_finished 132 = .ok (.iaload, 1) := by decide +kernel
theorem d_Mo_finished_133 : decode cc_Mo_finished 133 = .ok (.aload_n 0, 1) := by decide +kernel
theorem d_Mo_finished_134 : decode cc_Mo_finished 134 = .ok (.getfield 53, 3) := by decide +kernel
theorem d_Mo_finished_137 : decode cc_Mo_finished 137 = .ok (.iload_n 3, 1) := by decide +kernel
theorem d_Mo_finished_138 : decode cc_Mo_finished 138 = .ok (.iaload, 1) := by decide +kernel
theorem d_Mo_finished_139 : decode cc_Mo_finished 139 = .ok (.invokevirtual 161, 3) := by decide +kernel
theorem d_Mo_finished_142 : decode cc_Mo_finished 142 = .ok (.goto (-132), 3) := by decide +kernel
theorem d_Mo_finished_145 : decode cc_Mo_finished 145 = .ok (.aload_n 0, 1) := by decide +kernel
theorem d_Mo_finished_146 : decode cc_Mo_finished 146 = .ok (.getfield 20, 3) := by decide +kernel
theorem d_Mo_finished_149 : decode cc_Mo_finished 149 = .ok (.iload 4, 2) := by decide +kernel
theorem d_Mo_finished_151 : decode cc_Mo_finished 151 = .ok (.iaload, 1) := by decide +kernel
theorem d_Mo_finished_152 : decode cc_Mo_finished 152 = .ok (.iconst 2, 1) := by decide +kernel
theorem d_Mo_finished_153 : decode cc_Mo_finished 153 = .ok (.if_icmp .ne 14, 3) := by decide +kernel
theorem d_Mo_finished_156 : decode cc_Mo_finished 156 = .ok (.aload_n 0, 1) := by decide +kernel
theorem d_Mo_finished_157 : decode cc_Mo_finished 157 = .ok (.getfield 44, 3) := by decide +kernel
theorem d_Mo_finished_160 : decode cc_Mo_finished 160 = .ok (.iload 4, 2) := by decide +kernel
theorem d_Mo_finished_162 : decode cc_Mo_finished 162 = .ok (.iaload, 1) := by decide +kernel
theorem d_Mo_finished_163 : decode cc_Mo_finished 163 = .ok (.iconst 2, 1) := by decide +kernel
theorem d_Mo_finished_164 : decode cc_Mo_finished 164 = .ok (.if_icmp .ne 12, 3) := by decide +kernel
theorem d_Mo_finished_167 : decode cc_Mo_finished 167 = .ok (.aload_n 0, 1) := by decide +kernel
theorem d_Mo_finished_168 : decode cc_Mo_finished 168 = .ok (.getfield 32, 3) := by decide +kernel
theorem d_Mo_finished_171 : decode cc_Mo_finished 171 = .ok (.iload 4, 2) := by decide +kernel
theorem d_Mo_finished_173 : decode cc_Mo_finished 173 = .ok (.iconst 1, 1) := by decide +kernel
theorem d_Mo_finished_174 : decode cc_Mo_finished 174 = .ok (.iastore, 1) := by decide +kernel
theorem d_Mo_finished_175 : decode cc_Mo_finished 175 = .ok (.return_, 1) := by decide +kernel
theorem d_Mo_finished_176 : decode cc_Mo_finished 176 = .ok (.aload_n 0, 1) := by decide +kernel
theorem d_Mo_finished_177 : decode cc_Mo_finished 177 = .ok (.getfield 44, 3) := by decide +kernel
theorem d_Mo_finished_180 : decode cc_Mo_finished 180 = .ok (.iload 4, 2) := by decide +kernel
theorem d_Mo_finished_182 : decode cc_Mo_finished 182 = .ok (.iconst 2, 1) := by decide +kernel
theorem d_Mo_finished_183 : decode cc_Mo_finished 183 = .ok (.iastore, 1) := by decide +kernel
theorem d_Mo_finished_184 : decode cc_Mo_finished 184 = .ok (.aload_n 0, 1) := by decide +kernel
theorem d_Mo_finished_185 : decode cc_Mo_finished 185 = .ok (.getfield 68, 3) := by decide +kernel
theorem d_Mo_finished_188 : decode cc_Mo_finished 188 = .ok (.iload_n 3, 1) := by decide +kernel
theorem d_Mo_finished_189 : decode cc_Mo_finished 189 = .ok (.lconst 0, 1) := by decide +kernel
theorem d_Mo_finished_190 : decode cc_Mo_finished 190 = .ok (.lastore, 1) := by decide +kernel
theorem d_Mo_finished_191 : decode cc_Mo_finished 191 = .ok (.aload_n 0, 1) := by decide +kernel
theorem d_Mo_finished_192 : decode cc_Mo_finished 192 = .ok (.iload_n 2, 1) := by decide +kernel
theorem d_Mo_finished_193 : decode cc_Mo_finished 193 = .ok (.iload_n 3, 1) := by decide +kernel
theorem d_Mo_finished_194 : decode cc_Mo_finished 194 = .ok (.invokevirtual 137, 3) := by decide +kernel
theorem d_Mo_finished_197 : decode cc_Mo_finished 197 = .ok (.return_, 1) := by decide +kernel
theorem d_Mo_fork_0 : decode cc_Mo_fork 0 = .ok (.aload_n 0, 1) := by decide +kernel
theorem d_Mo_fork_1 : decode cc_Mo_fork 1 = .ok (.getfield 47, 3) := by decide +kernel
theorem d_Mo_fork_4 : decode cc_Mo_fork 4 = .ok (.iload_n 1, 1) := by decide +kernel
theorem d_Mo_fork_5 : decode cc_Mo_fork 5 = .ok (.iaload, 1) := by decide +kernel
theorem d_Mo_fork_6 : decode cc_Mo_fork 6 = .ok (.istore_n 3, 1) := by decide +kernel
theorem d_Mo_fork_7 : decode cc_Mo_fork 7 = .ok (.aload_n 0, 1) := by decide +kernel
theorem d_Mo_fork_8 : decode cc_Mo_fork 8 = .ok (.getfield 50, 3) := by decide +kernel
theorem d_Mo_fork_11 : decode cc_Mo_fork 11 = .ok (.iload_n 1, 1) := by decide +kernel
theorem d_Mo_fork_12 : decode cc_Mo_fork 12 = .ok (.iaload, 1) := by decide +kernel
theorem d_Mo_fork_13 : decode cc_Mo_fork 13 = .ok (.aload_n 0, 1) := by decide +kernel
theorem d_Mo_fork_14 : decode cc_Mo_fork 14 = .ok (.getfield 53, 3) := by decide +kernel
theorem d_Mo_fork_17 : decode cc_Mo_fork 17 = .ok (.iload_n 1, 1) := by decide +kernel
theorem d_Mo_fork_18 : decode cc_Mo_fork 18 = .ok (.iaload, 1) := by decide +kernel
theorem d_Mo_fork_19 : decode cc_Mo_fork 19 = .ok (.iadd, 1) := by decide +kernel
theorem d_Mo_fork_20 : decode cc_Mo_fork 20 = .ok (.iconst 2, 1) := by decide +kernel
theorem d_Mo_fork_21 : decode cc_Mo_fork 21 = .ok (.idiv, 1) := by decide +kernel
theorem d_Mo_fork_22 : decode cc_Mo_fork 22 = .ok (.istore 4, 2) := by decide +kernel
theorem d_Mo_fork_24 : decode cc_Mo_fork 24 = .ok (.aload_n 0, 1) := by decide +kernel
theorem d_Mo_fork_25 : decode cc_Mo_fork 25 = .ok (.getfield 44, 3) := by decide +kernel
theorem d_Mo_fork_28 : decode cc_Mo_fork 28 = .ok (.iload_n 3, 1) := by decide +kernel
theorem d_Mo_fork_29 : decode cc_Mo_fork 29 = .ok (.iaload, 1) := by decide +kernel
theorem d_Mo_fork_30 : decode cc_Mo_fork 30 = .ok (.iconst 1, 1) := by decide +kernel
theorem d_Mo_fork_31 : decode cc_Mo_fork 31 = .ok (.if_icmp .ne 41, 3) := by decide +kernel
theorem d_Mo_fork_34 : decode cc_Mo_fork 34 = .ok (.aload_n 0, 1) := by decide +kernel
theorem d_Mo_fork_35 : decode cc_Mo_fork 35 = .ok (.getfield 59, 3) := by decide +kernel
theorem d_Mo_fork_38 : decode cc_Mo_fork 38 = .ok (.iload_n 1, 1) := by decide +kernel
theorem d_Mo_fork_39 : decode cc_Mo_fork 39 = .ok (.aload_n 0, 1) := by decide +kernel
theorem d_Mo_fork_40 : decode cc_Mo_fork 40 = .ok (.iload_n 3, 1) := by decide +kernel
theorem d_Mo_fork_41 : decode cc_Mo_fork 41 = .ok (.aload_n 0, 1) := by decide +kernel
theorem d_Mo_fork_42 : decode cc_Mo_fork 42 = .ok (.getfield 50, 3) := by decide +kernel
theorem d_Mo_fork_45 : decode cc_Mo_fork 45 = .ok (.iload_n 1, 1) := by decide +kernel
theorem d_Mo_fork_46 : decode cc_Mo_fork 46 = .ok (.iaload, 1) := by decide +kernel
theorem d_Mo_fork_47 : decode cc_Mo_fork 47 = .ok (.iload 4, 2) := by decide +kernel
theorem d_Mo_fork_49 : decode cc_Mo_fork 49 = .ok (.iload_n 1, 1) := by decide +kernel
theorem d_Mo_fork_50 : decode cc_Mo_fork 50 = .ok (.invokevirtual 133, 3) := by decide +kernel
theorem d_Mo_fork_53 : decode cc_Mo_fork 53 = .ok (.iastore, 1) := by decide +kernel
theorem d_Mo_fork_54 : decode cc_Mo_fork 54 = .ok (.aload_n 0, 1) := by decide +kernel
theorem d_Mo_fork_55 : decode cc_Mo_fork 55 = .ok (.iload_n 3, 1) := by decide +kernel
theorem d_Mo_fork_56 : decode cc_Mo_fork 56 = .ok (.iload 4, 2) := by decide +kernel
theorem d_Mo_fork_58 : decode cc_Mo_fork 58 = .ok (.aload_n 0, 1) := by decide +kernel
theorem d_Mo_fork_59 : decode cc_Mo_fork 59 = .ok (.getfield 53, 3) := by decide +kernel
theorem d_Mo_fork_62 : decode cc_Mo_fork 62 = .ok (.iload_n 1, 1) := by decide +kernel
theorem d_Mo_fork_63 : decode cc_Mo_fork 63 = .ok (.iaload, 1) := by decide +kernel
theorem d_Mo_fork_64 : decode cc_Mo_fork 64 = .ok (.iload_n 1, 1) := by decide +kernel
theorem d_Mo_fork_65 : decode cc_Mo_fork 65 = .ok (.invokevirtual 133, 3) := by decide +kernel
theorem d_Mo_fork_68 : decode cc_Mo_fork 68 = .ok (.pop, 1) := by decide +kernel
theorem d_Mo_fork_69 : decode cc_Mo_fork 69 = .ok (.goto 55, 3) := by decide +kernel
theorem d_Mo_fork_72 : decode cc_Mo_fork 72 = .ok (.aload_n 0, 1) := by decide +kernel
theorem d_Mo_fork_73 : decode cc_Mo_fork 73 = .ok (.getfield 68, 3) := by decide +kernel
theorem d_Mo_fork_76 : decode cc_Mo_fork 76 = .ok (.aload_n 0, 1) := by decide +kernel
theorem d_Mo_fork_77 : decode cc_Mo_fork 77 = .ok (.getfield 59, 3) := by decide +kernel
theorem d_Mo_fork_80 : decode cc_Mo_fork 80 = .ok (.iload_n 1, 1) := by decide +kernel
theorem d_Mo_fork_81 : decode cc_Mo_fork 81 = .ok (.iaload, 1) := by decide +kernel
theorem d_Mo_fork_82 : decode cc_Mo_fork 82 = .ok (.aload_n 0, 1) := by decide +kernel
theorem d_Mo_fork_83 : decode cc_Mo_fork 83 = .ok (.getfield 68, 3) := by decide +kernel
theorem d_Mo_fork_86 : decode cc_Mo_fork 86 = .ok (.iload_n 1, 1) := by decide +kernel
theorem d_Mo_fork_87 : decode cc_Mo_fork 87 = .ok (.laload, 1) := by decide +kernel
theorem d_Mo_fork_88 : decode cc_Mo_fork 88 = .ok (.lastore, 1) := by decide +kernel
theorem d_Mo_fork_89 : decode cc_Mo_fork 89 = .ok (.aload_n 0, 1) := by decide +kernel
theorem d_Mo_fork_90 : decode cc_Mo_fork 90 = .ok (.getfield 68, 3) := by decide +kernel
theorem d_Mo_fork_93 : decode cc_Mo_fork 93 = .ok (.aload_n 0, 1) := by decide +kernel
theorem d_Mo_fork_94 : decode cc_Mo_fork 94 = .ok (.getfield 59, 3) := by decide +kernel
theorem d_Mo_fork_97 : decode cc_Mo_fork 97 = .ok (.iload_n 1, 1) := by decide +kernel
theorem d_Mo_fork_98 : decode cc_Mo_fork 98 = .ok (.iaload, 1) := by decide +kernel
theorem d_Mo_fork_99 : decode cc_Mo_fork 99 = .ok (.iconst 1, 1) := by decide +kernel
theorem d_Mo_fork_100 : decode cc_Mo_fork 100 = .ok (.iadd, 1) := by decide +kernel
theorem d_Mo_fork_101 : decode cc_Mo_fork 101 = .ok (.aload_n 0, 1) := by decide +kernel
theorem d_Mo_fork_102 : decode cc_Mo_fork 102 = .ok (.iload_n 3, 1) := by decide +kernel
theorem d_Mo_fork_103 : decode cc_Mo_fork 103 = .ok (.aload_n 0, 1) := by decide +kernel
theorem d_Mo_fork_104 : decode cc_Mo_fork 104 = .ok (.getfield 68, 3) := by decide +kernel
theorem d_Mo_fork_107 : decode cc_Mo_fork 107 = .ok (.iload_n 1, 1) := by decide +kernel
theorem d_Mo_fork_108 : decode cc_Mo_fork 108 = .ok (.laload, 1) := by decide +kernel
theorem d_Mo_fork_109 : decode cc_Mo_fork 109 = .ok (.aload_n 0, 1) := by decide +kernel
theorem d_Mo_fork_110 : decode cc_Mo_fork 110 = .ok (.getfield 65, 3) := by decide +kernel
theorem d_Mo_fork_113 : decode cc_Mo_fork 113 = .ok (.aload_n 0, 1) := by decide +kernel
theorem d_Mo_fork_114 : decode cc_Mo_fork 114 = .ok (.getfield 59, 3) := by decide +kernel
theorem d_Mo_fork_117 : decode cc_Mo_fork 117 = .ok (.iload_n 1, 1) := by decide +kernel
theorem d_Mo_fork_118 : decode cc_Mo_fork 118 = .ok (.iaload, 1) := by decide +kernel
theorem d_Mo_fork_119 : decode cc_Mo_fork 119 = .ok (.laload, 1) := by decide +kernel
theorem d_Mo_fork_120 : decode cc_Mo_fork 120 = .ok (.invokevirtual 149, 3) := by decide +kernel
theorem d_Mo_fork_123 : decode cc_Mo_fork 123 = .ok (.lastore, 1) := by decide +kernel
theorem d_Mo_fork_124 : decode cc_Mo_fork 124 = .ok (.aload_n 0, 1) := by decide +kernel
theorem d_Mo_fork_125 : decode cc_Mo_fork 125 = .ok (.getfield 62, 3) := by decide +kernel
theorem d_Mo_fork_128 : decode cc_Mo_fork 128 = .ok (.iload_n 1, 1) := by decide +kernel
theorem d_Mo_fork_129 : decode cc_Mo_fork 129 = .ok (.iconst 0, 1) := by decide +kernel
theorem d_Mo_fork_130 : decode cc_Mo_fork 130 = .ok (.iastore, 1) := by decide +kernel
theorem d_Mo_fork_131 : decode cc_Mo_fork 131 = .ok (.aload_n 0, 1) := by decide +kernel
theorem d_Mo_fork_132 : decode cc_Mo_fork 132 = .ok (.iload_n 2, 1) := by decide +kernel
theorem d_Mo_fork_133 : decode cc_Mo_fork 133 = .ok (.aload_n 0, 1) := by decide +kernel
theorem d_Mo_fork_134 : decode cc_Mo_fork 134 = .ok (.getfield 59, 3) := by decide +kernel
theorem d_Mo_fork_137 : decode cc_Mo_fork 137 = .ok (.iload_n 1, 1) := by decide +kernel
theorem d_Mo_fork_138 : decode cc_Mo_fork 138 = .ok (.iaload, 1) := by decide +kernel
theorem d_Mo_fork_139 : decode cc_Mo_fork 139 = .ok (.iconst 1, 1) := by decide +kernel
theorem d_Mo_fork_140 : decode cc_Mo_fork 140 = .ok (.iadd, 1) := by decide +kernel
theorem d_Mo_fork_141 : decode cc_Mo_fork 141 = .ok (.invokevirtual 137, 3) := by decide +kernel
theorem d_Mo_fork_144 : decode cc_Mo_fork 144 = .ok (.aload_n 0, 1) := by decide +kernel
theorem d_Mo_fork_145 : decode cc_Mo_fork 145 = .ok (.iload_n 2, 1) := by decide +kernel
theorem d_Mo_fork_146 : decode cc_Mo_fork 146 = .ok (.aload_n 0, 1) := by decide +kernel
theorem d_Mo_fork_147 : decode cc_Mo_fork 147 = .ok (.getfield 59, 3) := by decide +kernel
theorem d_Mo_fork_150 : decode cc_Mo_fork 150 = .ok (.iload_n 1, 1) := by decide +kernel
theorem d_Mo_fork_151 : decode cc_Mo_fork 151 = .ok (.iaload, 1) := by decide +kernel
theorem d_Mo_fork_152 : decode cc_Mo_fork 152 = .ok (.invokevirtual 137, 3) := by decide +kernel
theorem d_Mo_fork_155 : decode cc_Mo_fork 155 = .ok (.return_, 1) := by decide +kernel
theorem d_Mo_get_0 : decode cc_Mo_get 0 = .ok (.aload_n 0, 1) := by decide +kernel
theorem d_Mo_get_1 : decode cc_Mo_get 1 = .ok (.iconst 0, 1) := by decide +kernel
theorem d_Mo_get_2 : decode cc_Mo_get 2 = .ok (.putfield 96, 3) := by decide +kernel
theorem d_Mo_get_5 : decode cc_Mo_get 5 = .ok (.aload_n 0, 1) := by decide +kernel
theorem d_Mo_get_6 : decode cc_Mo_get 6 = .ok (.iload_n 1, 1) := by decide +kernel
theorem d_Mo_get_7 : decode cc_Mo_get 7 = .ok (.iload_n 2, 1) := by decide +kernel
theorem d_Mo_get_8 : decode cc_Mo_get 8 = .ok (.invokevirtual 118, 3) := by decide +kernel
theorem d_Mo_get_11 : decode cc_Mo_get 11 = .ok (.ifCond .eq 12, 3) := by decide +kernel
theorem d_Mo_get_14 : decode cc_Mo_get 14 = .ok (.aload_n 0, 1) := by decide +kernel
theorem d_Mo_get_15 : decode cc_Mo_get 15 = .ok (.iconst 1, 1) := by decide +kernel
theorem d_Mo_get_16 : decode cc_Mo_get 16 = .ok (.invokevirtual 110, 3) := by decide +kernel
theorem d_Mo_get_19 : decode cc_Mo_get 19 = .ok (.i2l, 1) := by decide +kernel
theorem d_Mo_get_20 : decode cc_Mo_get 20 = .ok (.goto 14, 3) := by decide +kernel
theorem d_Mo_get_23 : decode cc_Mo_get 23 = .ok (.aload_n 0, 1) := by decide +kernel
theorem d_Mo_get_24 : decode cc_Mo_get 24 = .ok (.getfield 16, 3) := by decide +kernel
theorem d_Mo_get_27 : decode cc_Mo_get 27 = .ok (.bipush 24, 2) := by decide +kernel
theorem d_Mo_get_29 : decode cc_Mo_get 29 = .ok (.iload_n 1, 1) := by decide +kernel
theorem d_Mo_get_30 : decode cc_Mo_get 30 = .ok (.imul, 1) := by decide +kernel
theorem d_Mo_get_31 : decode cc_Mo_get 31 = .ok (.iload_n 2, 1) := by decide +kernel
theorem d_Mo_get_32 : decode cc_Mo_get 32 = .ok (.iadd, 1) := by decide +kernel
theorem d_Mo_get_33 : decode cc_Mo_get 33 = .ok (.laload, 1) := by decide +kernel
theorem d_Mo_get_34 : decode cc_Mo_get 34 = .ok (.lreturn, 1) := by decide +kernel
theorem d_Mo_grain_0 : decode cc_Mo_grain 0 = .ok (.aload_n 0, 1) := by decide +kernel
theorem d_Mo_grain_1 : decode cc_Mo_grain 1 = .ok (.iconst 0, 1) := by decide +kernel
theorem d_Mo_grain_2 : decode cc_Mo_grain 2 = .ok (.putfield 96, 3) := by decide +kernel
theorem d_Mo_grain_5 : decode cc_Mo_grain 5 = .ok (.iload_n 1, 1) := by decide +kernel
theorem d_Mo_grain_6 : decode cc_Mo_grain 6 = .ok (.iconst 1, 1) := by decide +kernel
theorem d_Mo_grain_7 : decode cc_Mo_grain 7 = .ok (.bipush 24, 2) := by decide +kernel
theorem d_Mo_grain_9 : decode cc_Mo_grain 9 = .ok (.invokestatic 106, 3) := by decide +kernel
theorem d_Mo_grain_12 : decode cc_Mo_grain 12 = .ok (.ifCond .ne 9, 3) := by decide +kernel
theorem d_Mo_grain_15 : decode cc_Mo_grain 15 = .ok (.aload_n 0, 1) := by decide +kernel
theorem d_Mo_grain_16 : decode cc_Mo_grain 16 = .ok (.iconst 1, 1) := by decide +kernel
theorem d_Mo_grain_17 : decode cc_Mo_grain 17 = .ok (.invokevirtual 110, 3) := by decide +kernel
theorem d_Mo_grain_20 : decode cc_Mo_grain 20 = .ok (.ireturn, 1) := by decide +kernel
theorem d_Mo_grain_21 : decode cc_Mo_grain 21 = .ok (.aload_n 0, 1) := by decide +kernel
theorem d_Mo_grain_22 : decode cc_Mo_grain 22 = .ok (.getfield 89, 3) := by decide +kernel
theorem d_Mo_grain_25 : decode cc_Mo_grain 25 = .ok (.istore_n 2, 1) := by decide +kernel
theorem d_Mo_grain_26 : decode cc_Mo_grain 26 = .ok (.aload_n 0, 1) := by decide +kernel
theorem d_Mo_grain_27 : decode cc_Mo_grain 27 = .ok (.iload_n 1, 1) := by decide +kernel
theorem d_Mo_grain_28 : decode cc_Mo_grain 28 = .ok (.putfield 89, 3) := by decide +kernel
theorem d_Mo_grain_31 : decode cc_Mo_grain 31 = .ok (.iload_n 2, 1) := by decide +kernel
theorem d_Mo_grain_32 : decode cc_Mo_grain 32 = .ok (.ireturn, 1) := by decide +kernel
theorem d_Mo_in_0 : decode cc_Mo_in 0 = .ok (.iload_n 0, 1) := by decide +kernel
theorem d_Mo_in_1 : decode cc_Mo_in 1 = .ok (.iload_n 1, 1) := by decide +kernel
theorem d_Mo_in_2 : decode cc_Mo_in 2 = .ok (.if_icmp .lt 12, 3) := by decide +kernel
theorem d_Mo_in_5 : decode cc_Mo_in 5 = .ok (.iload_n 0, 1) := by decide +kernel
theorem d_Mo_in_6 : decode cc_Mo_in 6 = .ok (.iload_n 2, 1) := by decide +kernel
theorem d_Mo_in_7 : decode cc_Mo_in 7 = .ok (.if_icmp .gt 7, 3) := by decide +kernel
theorem d_Mo_in_10 : decode cc_Mo_in 10 = .ok (.iconst 1, 1) := by decide +kernel
theorem d_Mo_in_11 : decode cc_Mo_in 11 = .ok (.goto 4, 3) := by decide +kernel
theorem d_Mo_in_14 : decode cc_Mo_in 14 = .ok (.iconst 0, 1) := by decide +kernel
theorem d_Mo_in_15 : decode cc_Mo_in 15 = .ok (.ireturn, 1) := by decide +kernel
theorem d_Mo_inQueues_0 : decode cc_Mo_inQueues 0 = .ok (.iconst 0, 1) := by decide +kernel
theorem d_Mo_inQueues_1 : decode cc_Mo_inQueues 1 = .ok (.istore_n 2, 1) := by decide +kernel
theorem d_Mo_inQueues_2 : decode cc_Mo_inQueues 2 = .ok (.iconst 0, 1) := by decide +kernel
theorem d_Mo_inQueues_3 : decode cc_Mo_inQueues 3 = .ok (.istore_n 3, 1) := by decide +kernel
theorem d_Mo_inQueues_4 : decode cc_Mo_inQueues 4 = .ok (.iload_n 3, 1) := by decide +kernel
theorem d_Mo_inQueues_5 : decode cc_Mo_inQueues 5 = .ok (.aload_n 0, 1) := by decide +kernel
theorem d_Mo_inQueues_6 : decode cc_Mo_inQueues 6 = .ok (.getfield 93, 3) := by decide +kernel
theorem d_Mo_inQueues_9 : decode cc_Mo_inQueues 9 = .ok (.if_icmp .ge 54, 3) := by decide +kernel
theorem d_Mo_inQueues_12 : decode cc_Mo_inQueues 12 = .ok (.iconst 0, 1) := by decide +kernel
theorem d_Mo_inQueues_13 : decode cc_Mo_inQueues 13 = .ok (.istore 4, 2) := by decide +kernel
theorem d_Mo_inQueues_15 : decode cc_Mo_inQueues 15 = .ok (.iload 4, 2) := by decide +kernel
theorem d_Mo_inQueues_17 : decode cc_Mo_inQueues 17 = .ok (.aload_n 0, 1) := by decide +kernel
theorem d_Mo_inQueues_18 : decode cc_Mo_inQueues 18 = .ok (.getfield 74, 3) := by decide +kernel
theorem d_Mo_inQueues_21 : decode cc_Mo_inQueues 21 = .ok (.iload_n 3, 1) := by decide +kernel
theorem d_Mo_inQueues_22 : decode cc_Mo_inQueues 22 = .ok (.iaload, 1) := by decide +kernel
theorem d_Mo_inQueues_23 : decode cc_Mo_inQueues 23 = .ok (.if_icmp .ge 34, 3) := by decide +kernel
theorem d_Mo_inQueues_26 : decode cc_Mo_inQueues 26 = .ok (.aload_n 0, 1) := by decide +kernel
theorem d_Mo_inQueues_27 : decode cc_Mo_inQueues 27 = .ok (.getfield 47, 3) := by decide +kernel
theorem d_Mo_inQueues_30 : decode cc_Mo_inQueues 30 = .ok (.aload_n 0, 1) := by decide +kernel
theorem d_Mo_inQueues_31 : decode cc_Mo_inQueues 31 = .ok (.getfield 71, 3) := by decide +kernel
theorem d_Mo_inQueues_34 : decode cc_Mo_inQueues 34 = .ok (.sipush 600, 3) := by decide +kernel
theorem d_Mo_inQueues_37 : decode cc_Mo_inQueues 37 = .ok (.iload_n 3, 1) := by decide +kernel
theorem d_Mo_inQueues_38 : decode cc_Mo_inQueues 38 = .ok (.imul, 1) := by decide +kernel
theorem d_Mo_inQueues_39 : decode cc_Mo_inQueues 39 = .ok (.iload 4, 2) := by decide +kernel
theorem d_Mo_inQueues_41 : decode cc_Mo_inQueues 41 = .ok (.iadd, 1) := by decide +kernel
theorem d_Mo_inQueues_42 : decode cc_Mo_inQueues 42 = .ok (.iaload, 1) := by decide +kernel
theorem d_Mo_inQueues_43 : decode cc_Mo_inQueues 43 = .ok (.iaload, 1) := by decide +kernel
theorem d_Mo_inQueues_44 : decode cc_Mo_inQueues 44 = .ok (.iload_n 1, 1) := by decide +kernel
theorem d_Mo_inQueues_45 : decode cc_Mo_inQueues 45 = .ok (.if_icmp .ne 6, 3) := by decide +kernel
theorem d_Mo_inQueues_48 : decode cc_Mo_inQueues 48 = .ok (.iinc 2 1, 3) := by decide +kernel
theorem d_Mo_inQueues_51 : decode cc_Mo_inQueues 51 = .ok (.iinc 4 1, 3) := by decide +kernel
theorem d_Mo_inQueues_54 : decode cc_Mo_inQueues 54 = .ok (.goto (-39), 3) := by decide +kernel
theorem d_Mo_inQueues_57 : decode cc_Mo_inQueues 57 = .ok (.iinc 3 1, 3) := by decide +kernel
theorem d_Mo_inQueues_60 : decode cc_Mo_inQueues 60 = .ok (.goto (-56), 3) := by decide +kernel
theorem d_Mo_inQueues_63 : decode cc_Mo_inQueues 63 = .ok (.iload_n 2, 1) := by decide +kernel
theorem d_Mo_inQueues_64 : decode cc_Mo_inQueues 64 = .ok (.ireturn, 1) := by decide +kernel
theorem d_Mo_init_0 : decode cc_Mo_init 0 = .ok (.aload_n 0, 1) := by decide +kernel
theorem d_Mo_init_1 : decode cc_Mo_init 1 = .ok (.invokespecial 1, 3) := by decide +kernel
theorem d_Mo_init_4 : decode cc_Mo_init 4 = .ok (.aload_n 0, 1) := by decide +kernel
theorem d_Mo_init_5 : decode cc_Mo_init 5 = .ok (.iconst 4, 1) := by decide +kernel
theorem d_Mo_init_6 : decode cc_Mo_init 6 = .ok (.newarray .int, 2) := by decide +kernel
theorem d_Mo_init_8 : decode cc_Mo_init 8 = .ok (.dup, 1) := by decide +kernel
theorem d_Mo_init_9 : decode cc_Mo_init 9 = .ok (.iconst 0, 1) := by decide +kernel
theorem d_Mo_init_10 : decode cc_Mo_init 10 = .ok (.iconst (-1), 1) := by decide +kernel
theorem d_Mo_init_11 : decode cc_Mo_init 11 = .ok (.iastore, 1) := by decide +kernel
theorem d_Mo_init_12 : decode cc_Mo_init 12 = .ok (.dup, 1) := by decide +kernel
theorem d_Mo_init_13 : decode cc_Mo_init 13 = .ok (.iconst 1, 1) := by decide +kernel
theorem d_Mo_init_14 : decode cc_Mo_init 14 = .ok (.iconst (-1), 1) := by decide +kernel
theorem d_Mo_init_15 : decode cc_Mo_init 15 = .ok (.iastore, 1) := by decide +kernel
theorem d_Mo_init_16 : decode cc_Mo_init 16 = .ok (.dup, 1) := by decide +kernel
theorem d_Mo_init_17 : decode cc_Mo_init 17 = .ok (.iconst 2, 1) := by decide +kernel
theorem d_Mo_init_18 : decode cc_Mo_init 18 = .ok (.iconst (-1), 1) := by decide +kernel
theorem d_Mo_init_19 : decode cc_Mo_init 19 = .ok (.iastore, 1) := by decide +kernel
theorem d_Mo_init_20 : decode cc_Mo_init 20 = .ok (.dup, 1) := by decide +kernel
theorem d_Mo_init_21 : decode cc_Mo_init 21 = .ok (.iconst 3, 1) := by decide +kernel
theorem d_Mo_init_22 : decode cc_Mo_init 22 = .ok (.iconst (-1), 1) := by decide +kernel
theorem d_Mo_init_23 : decode cc_Mo_init 23 = .ok (.iastore, 1) := by decide +kernel
theorem d_Mo_init_24 : decode cc_Mo_init 24 = .ok (.putfield 7, 3) := by decide +kernel
theorem d_Mo_init_27 : decode cc_Mo_init 27 = .ok (.aload_n 0, 1) := by decide +kernel
theorem d_Mo_init_28 : decode cc_Mo_init 28 = .ok (.iconst 4, 1) := by decide +kernel
theorem d_Mo_init_29 : decode cc_Mo_init 29 = .ok (.newarray .int, 2) := by decide +kernel
theorem d_Mo_init_31 : decode cc_Mo_init 31 = .ok (.putfield 13, 3) := by decide +kernel
theorem d_Mo_init_34 : decode cc_Mo_init 34 = .ok (.aload_n 0, 1) := by decide +kernel
theorem d_Mo_init_35 : decode cc_Mo_init 35 = .ok (.bipush 96, 2) := by decide +kernel
theorem d_Mo_init_37 : decode cc_Mo_init 37 = .ok (.newarray .long, 2) := by decide +kernel
theorem d_Mo_init_39 : decode cc_Mo_init 39 = .ok (.putfield 16, 3) := by decide +kernel
theorem d_Mo_init_42 : decode cc_Mo_init 42 = .ok (.aload_n 0, 1) := by decide +kernel
theorem d_Mo_init_43 : decode cc_Mo_init 43 = .ok (.bipush 12, 2) := by decide +kernel
theorem d_Mo_init_45 : decode cc_Mo_init 45 = .ok (.newarray .int, 2) := by decide +kernel
theorem d_Mo_init_47 : decode cc_Mo_init 47 = .ok (.putfield 20, 3) := by decide +kernel
theorem d_Mo_init_50 : decode cc_Mo_init 50 = .ok (.aload_n 0, 1) := by decide +kernel
theorem d_Mo_init_51 : decode cc_Mo_init 51 = .ok (.bipush 12, 2) := by decide +kernel
theorem d_Mo_init_53 : decode cc_Mo_init 53 = .ok (.newarray .int, 2) := by decide +kernel
theorem d_Mo_init_55 : decode cc_Mo_init 55 = .ok (.putfield 23, 3) := by decide +kernel
theorem d_Mo_init_58 : decode cc_Mo_init 58 = .ok (.aload_n 0, 1) := by decide +kernel
theorem d_Mo_init_59 : decode cc_Mo_init 59 = .ok (.bipush 12, 2) := by decide +kernel
theorem d_Mo_init_61 : decode cc_Mo_init 61 = .ok (.newarray .int, 2) := by decide +kernel
theorem d_Mo_init_63 : decode cc_Mo_init 63 = .ok (.putfield 26, 3) := by decide +kernel
theorem d_Mo_init_66 : decode cc_Mo_init 66 = .ok (.aload_n 0, 1) := by decide +kernel
theorem d_Mo_init_67 : decode cc_Mo_init 67 = .ok (.bipush 12, 2) := by decide +kernel
theorem d_Mo_init_69 : decode cc_Mo_init 69 = .ok (.newarray .int, 2) := by decide +kernel
theorem d_Mo_init_71 : decode cc_Mo_init 71 = .ok (.putfield 29, 3) := by decide +kernel
theorem d_Mo_init_74 : decode cc_Mo_init 74 = .ok (.aload_n 0, 1) := by decide +kernel
theorem d_Mo_init_75 : decode cc_Mo_init 75 = .ok (.bipush 12, 2) := by decide +kernel
theorem d_Mo_init_77 : decode cc_Mo_init 77 = .ok (.newarray .int, 2) := by decide +kernel
theorem d_Mo_init_79 : decode cc_Mo_init 79 = .ok (.putfield 32, 3) := by decide +kernel
theorem d_Mo_init_82 : decode cc_Mo_init 82 = .ok (.aload_n 0, 1) := by decide +kernel
theorem d_Mo_init_83 : decode cc_Mo_init 83 = .ok (.bipush 12, 2) := by decide +kernel
theorem d_Mo_init_85 : decode cc_Mo_init 85 = .ok (.newarray .int, 2) := by decide +kernel
theorem d_Mo_init_87 : decode cc_Mo_init 87 = .ok (.putfield 35, 3) := by decide +kernel
theorem d_Mo_init_90 : decode cc_Mo_init 90 = .ok (.aload_n 0, 1) := by decide +kernel
theorem d_Mo_init_91 : decode cc_Mo_init 91 = .ok (.bipush 12, 2) := by decide +kernel
theorem d_Mo_init_93 : decode cc_Mo_init 93 = .ok (.newarray .int, 2) := by decide +kernel
theorem d_Mo_init_95 : decode cc_Mo_init 95 = .ok (.putfield 38, 3) := by decide +kernel
theorem d_Mo_init_98 : decode cc_Mo_init 98 = .ok (.aload_n 0, 1) := by decide +kernel
end
section
theorem d_Mo_init_99 : decode cc_Mo_init 99 = .ok (.bipush 12, 2) := by decide +kernel
theorem d_Mo_init_101 : decode cc_Mo_init 101 = .ok (.newarray .int, 2) := by decide +kernel
theorem d_Mo_init_103 : decode cc_Mo_init 103 = .ok (.putfield 41, 3) := by decide +kernel
theorem d_Mo_init_106 : decode cc_Mo_init 106 = .ok (.aload_n 0, 1) := by decide +kernel
theorem d_Mo_init_107 : decode cc_Mo_init 107 = .ok (.bipush 12, 2) := by decide +kernel
theorem d_Mo_init_109 : decode cc_Mo_init 109 = .ok (.newarray .int, 2) := by decide +kernel
theorem d_Mo_init_111 : decode cc_Mo_init 111 = .ok (.putfield 44, 3) := by decide +kernel
theorem d_Mo_init_114 : decode cc_Mo_init 114 = .ok (.aload_n 0, 1) := by decide +kernel
theorem d_Mo_init_115 : decode cc_Mo_init 115 = .ok (.sipush 600, 3) := by decide +kernel
theorem d_Mo_init_118 : decode cc_Mo_init 118 = .ok (.newarray .int, 2) := by decide +kernel
theorem d_Mo_init_120 : decode cc_Mo_init 120 = .ok (.putfield 47, 3) := by decide +kernel
theorem d_Mo_init_123 : decode cc_Mo_init 123 = .ok (.aload_n 0, 1) := by decide +kernel
theorem d_Mo_init_124 : decode cc_Mo_init 124 = .ok (.sipush 600, 3) := by decide +kernel
theorem d_Mo_init_127 : decode cc_Mo_init 127 = .ok (.newarray .int, 2) := by decide +kernel
theorem d_Mo_init_129 : decode cc_Mo_init 129 = .ok (.putfield 50, 3) := by decide +kernel
theorem d_Mo_init_132 : decode cc_Mo_init 132 = .ok (.aload_n 0, 1) := by decide +kernel
theorem d_Mo_init_133 : decode cc_Mo_init 133 = .ok (.sipush 600, 3) := by decide +kernel
theorem d_Mo_init_136 : decode cc_Mo_init 136 = .ok (.newarray .int, 2) := by decide +kernel
theorem d_Mo_init_138 : decode cc_Mo_init 138 = .ok (.putfield 53, 3) := by decide +kernel
theorem d_Mo_init_141 : decode cc_Mo_init 141 = .ok (.aload_n 0, 1) := by decide +kernel
theorem d_Mo_init_142 : decode cc_Mo_init 142 = .ok (.sipush 600, 3) := by decide +kernel
theorem d_Mo_init_145 : decode cc_Mo_init 145 = .ok (.newarray .int, 2) := by decide +kernel
theorem d_Mo_init_147 : decode cc_Mo_init 147 = .ok (.putfield 56, 3) := by decide +kernel
theorem d_Mo_init_150 : decode cc_Mo_init 150 = .ok (.aload_n 0, 1) := by decide +kernel
theorem d_Mo_init_151 : decode cc_Mo_init 151 = .ok (.sipush 600, 3) := by decide +kernel
theorem d_Mo_init_154 : decode cc_Mo_init 154 = .ok (.newarray .int, 2) := by decide +kernel
theorem d_Mo_init_156 : decode cc_Mo_init 156 = .ok (.putfield 59, 3) := by decide +kernel
theorem d_Mo_init_159 : decode cc_Mo_init 159 = .ok (.aload_n 0, 1) := by decide +kernel
theorem d_Mo_init_160 : decode cc_Mo_init 160 = .ok (.sipush 600, 3) := by decide +kernel
theorem d_Mo_init_163 : decode cc_Mo_init 163 = .ok (.newarray .int, 2) := by decide +kernel
theorem d_Mo_init_165 : decode cc_Mo_init 165 = .ok (.putfield 62, 3) := by decide +kernel
theorem d_Mo_init_168 : decode cc_Mo_init 168 = .ok (.aload_n 0, 1) := by decide +kernel
theorem d_Mo_init_169 : decode cc_Mo_init 169 = .ok (.sipush 600, 3) := by decide +kernel
theorem d_Mo_init_172 : decode cc_Mo_init 172 = .ok (.newarray .long, 2) := by decide +kernel
theorem d_Mo_init_174 : decode cc_Mo_init 174 = .ok (.putfield 65, 3) := by decide +kernel
theorem d_Mo_init_177 : decode cc_Mo_init 177 = .ok (.aload_n 0, 1) := by decide +kernel
theorem d_Mo_init_178 : decode cc_Mo_init 178 = .ok (.sipush 600, 3) := by decide +kernel
theorem d_Mo_init_181 : decode cc_Mo_init 181 = .ok (.newarray .long, 2) := by decide +kernel
theorem d_Mo_init_183 : decode cc_Mo_init 183 = .ok (.putfield 68, 3) := by decide +kernel
theorem d_Mo_init_186 : decode cc_Mo_init 186 = .ok (.aload_n 0, 1) := by decide +kernel
theorem d_Mo_init_187 : decode cc_Mo_init 187 = .ok (.sipush 2400, 3) := by decide +kernel
theorem d_Mo_init_190 : decode cc_Mo_init 190 = .ok (.newarray .int, 2) := by decide +kernel
theorem d_Mo_init_192 : decode cc_Mo_init 192 = .ok (.putfield 71, 3) := by decide +kernel
theorem d_Mo_init_195 : decode cc_Mo_init 195 = .ok (.aload_n 0, 1) := by decide +kernel
theorem d_Mo_init_196 : decode cc_Mo_init 196 = .ok (.iconst 4, 1) := by decide +kernel
theorem d_Mo_init_197 : decode cc_Mo_init 197 = .ok (.newarray .int, 2) := by decide +kernel
theorem d_Mo_init_199 : decode cc_Mo_init 199 = .ok (.putfield 74, 3) := by decide +kernel
theorem d_Mo_init_202 : decode cc_Mo_init 202 = .ok (.aload_n 0, 1) := by decide +kernel
theorem d_Mo_init_203 : decode cc_Mo_init 203 = .ok (.iconst 4, 1) := by decide +kernel
theorem d_Mo_init_204 : decode cc_Mo_init 204 = .ok (.newarray .int, 2) := by decide +kernel
theorem d_Mo_init_206 : decode cc_Mo_init 206 = .ok (.putfield 77, 3) := by decide +kernel
theorem d_Mo_init_209 : decode cc_Mo_init 209 = .ok (.aload_n 0, 1) := by decide +kernel
theorem d_Mo_init_210 : decode cc_Mo_init 210 = .ok (.iconst 4, 1) := by decide +kernel
theorem d_Mo_init_211 : decode cc_Mo_init 211 = .ok (.newarray .int, 2) := by decide +kernel
theorem d_Mo_init_213 : decode cc_Mo_init 213 = .ok (.putfield 80, 3) := by decide +kernel
theorem d_Mo_init_216 : decode cc_Mo_init 216 = .ok (.aload_n 0, 1) := by decide +kernel
theorem d_Mo_init_217 : decode cc_Mo_init 217 = .ok (.iconst 4, 1) := by decide +kernel
theorem d_Mo_init_218 : decode cc_Mo_init 218 = .ok (.newarray .int, 2) := by decide +kernel
theorem d_Mo_init_220 : decode cc_Mo_init 220 = .ok (.putfield 83, 3) := by decide +kernel
theorem d_Mo_init_223 : decode cc_Mo_init 223 = .ok (.aload_n 0, 1) := by decide +kernel
theorem d_Mo_init_224 : decode cc_Mo_init 224 = .ok (.iconst 4, 1) := by decide +kernel
theorem d_Mo_init_225 : decode cc_Mo_init 225 = .ok (.newarray .int, 2) := by decide +kernel
theorem d_Mo_init_227 : decode cc_Mo_init 227 = .ok (.dup, 1) := by decide +kernel
theorem d_Mo_init_228 : decode cc_Mo_init 228 = .ok (.iconst 0, 1) := by decide +kernel
theorem d_Mo_init_229 : decode cc_Mo_init 229 = .ok (.iconst 0, 1) := by decide +kernel
theorem d_Mo_init_230 : decode cc_Mo_init 230 = .ok (.iastore, 1) := by decide +kernel
theorem d_Mo_init_231 : decode cc_Mo_init 231 = .ok (.dup, 1) := by decide +kernel
theorem d_Mo_init_232 : decode cc_Mo_init 232 = .ok (.iconst 1, 1) := by decide +kernel
theorem d_Mo_init_233 : decode cc_Mo_init 233 = .ok (.iconst 1, 1) := by decide +kernel
theorem d_Mo_init_234 : decode cc_Mo_init 234 = .ok (.iastore, 1) := by decide +kernel
theorem d_Mo_init_235 : decode cc_Mo_init 235 = .ok (.dup, 1) := by decide +kernel
theorem d_Mo_init_236 : decode cc_Mo_init 236 = .ok (.iconst 2, 1) := by decide +kernel
theorem d_Mo_init_237 : decode cc_Mo_init 237 = .ok (.iconst 2, 1) := by decide +kernel
theorem d_Mo_init_238 : decode cc_Mo_init 238 = .ok (.iastore, 1) := by decide +kernel
theorem d_Mo_init_239 : decode cc_Mo_init 239 = .ok (.dup, 1) := by decide +kernel
theorem d_Mo_init_240 : decode cc_Mo_init 240 = .ok (.iconst 3, 1) := by decide +kernel
theorem d_Mo_init_241 : decode cc_Mo_init 241 = .ok (.iconst 3, 1) := by decide +kernel
theorem d_Mo_init_242 : decode cc_Mo_init 242 = .ok (.iastore, 1) := by decide +kernel
theorem d_Mo_init_243 : decode cc_Mo_init 243 = .ok (.putfield 86, 3) := by decide +kernel
theorem d_Mo_init_246 : decode cc_Mo_init 246 = .ok (.aload_n 0, 1) := by decide +kernel
theorem d_Mo_init_247 : decode cc_Mo_init 247 = .ok (.iconst 4, 1) := by decide +kernel
theorem d_Mo_init_248 : decode cc_Mo_init 248 = .ok (.putfield 89, 3) := by decide +kernel
theorem d_Mo_init_251 : decode cc_Mo_init 251 = .ok (.aload_n 0, 1) := by decide +kernel
theorem d_Mo_init_252 : decode cc_Mo_init 252 = .ok (.iload_n 1, 1) := by decide +kernel
theorem d_Mo_init_253 : decode cc_Mo_init 253 = .ok (.iconst 1, 1) := by decide +kernel
theorem d_Mo_init_254 : decode cc_Mo_init 254 = .ok (.if_icmp .ge 7, 3) := by decide +kernel
theorem d_Mo_init_257 : decode cc_Mo_init 257 = .ok (.iconst 1, 1) := by decide +kernel
theorem d_Mo_init_258 : decode cc_Mo_init 258 = .ok (.goto 13, 3) := by decide +kernel
theorem d_Mo_init_261 : decode cc_Mo_init 261 = .ok (.iload_n 1, 1) := by decide +kernel
theorem d_Mo_init_262 : decode cc_Mo_init 262 = .ok (.iconst 4, 1) := by decide +kernel
theorem d_Mo_init_263 : decode cc_Mo_init 263 = .ok (.if_icmp .le 7, 3) := by decide +kernel
theorem d_Mo_init_266 : decode cc_Mo_init 266 = .ok (.iconst 4, 1) := by decide +kernel
theorem d_Mo_init_267 : decode cc_Mo_init 267 = .ok (.goto 4, 3) := by decide +kernel
theorem d_Mo_init_270 : decode cc_Mo_init 270 = .ok (.iload_n 1, 1) := by decide +kernel
theorem d_Mo_init_271 : decode cc_Mo_init 271 = .ok (.putfield 93, 3) := by decide +kernel
theorem d_Mo_init_274 : decode cc_Mo_init 274 = .ok (.return_, 1) := by decide +kernel
theorem d_Mo_job_0 : decode cc_Mo_job 0 = .ok (.aload_n 0, 1) := by decide +kernel
theorem d_Mo_job_1 : decode cc_Mo_job 1 = .ok (.iconst 0, 1) := by decide +kernel
theorem d_Mo_job_2 : decode cc_Mo_job 2 = .ok (.putfield 96, 3) := by decide +kernel
theorem d_Mo_job_5 : decode cc_Mo_job 5 = .ok (.aload_n 0, 1) := by decide +kernel
theorem d_Mo_job_6 : decode cc_Mo_job 6 = .ok (.iload_n 1, 1) := by decide +kernel
theorem d_Mo_job_7 : decode cc_Mo_job 7 = .ok (.invokevirtual 196, 3) := by decide +kernel
theorem d_Mo_job_10 : decode cc_Mo_job 10 = .ok (.ifCond .eq 9, 3) := by decide +kernel
theorem d_Mo_job_13 : decode cc_Mo_job 13 = .ok (.aload_n 0, 1) := by decide +kernel
theorem d_Mo_job_14 : decode cc_Mo_job 14 = .ok (.iconst 1, 1) := by decide +kernel
theorem d_Mo_job_15 : decode cc_Mo_job 15 = .ok (.invokevirtual 110, 3) := by decide +kernel
theorem d_Mo_job_18 : decode cc_Mo_job 18 = .ok (.ireturn, 1) := by decide +kernel
theorem d_Mo_job_19 : decode cc_Mo_job 19 = .ok (.iload_n 2, 1) := by decide +kernel
theorem d_Mo_job_20 : decode cc_Mo_job 20 = .ok (.tableswitch 70 0 4 #[36, 43, 50, 57, 63], 36) := by decide +kernel
theorem d_Mo_job_56 : decode cc_Mo_job 56 = .ok (.aload_n 0, 1) := by decide +kernel
theorem d_Mo_job_57 : decode cc_Mo_job 57 = .ok (.getfield 32, 3) := by decide +kernel
theorem d_Mo_job_60 : decode cc_Mo_job 60 = .ok (.iload_n 1, 1) := by decide +kernel
theorem d_Mo_job_61 : decode cc_Mo_job 61 = .ok (.iaload, 1) := by decide +kernel
theorem d_Mo_job_62 : decode cc_Mo_job 62 = .ok (.ireturn, 1) := by decide +kernel
theorem d_Mo_job_63 : decode cc_Mo_job 63 = .ok (.aload_n 0, 1) := by decide +kernel
theorem d_Mo_job_64 : decode cc_Mo_job 64 = .ok (.getfield 35, 3) := by decide +kernel
theorem d_Mo_job_67 : decode cc_Mo_job 67 = .ok (.iload_n 1, 1) := by decide +kernel
theorem d_Mo_job_68 : decode cc_Mo_job 68 = .ok (.iaload, 1) := by decide +kernel
theorem d_Mo_job_69 : decode cc_Mo_job 69 = .ok (.ireturn, 1) := by decide +kernel
theorem d_Mo_job_70 : decode cc_Mo_job 70 = .ok (.aload_n 0, 1) := by decide +kernel
theorem d_Mo_job_71 : decode cc_Mo_job 71 = .ok (.getfield 38, 3) := by decide +kernel
theorem d_Mo_job_74 : decode cc_Mo_job 74 = .ok (.iload_n 1, 1) := by decide +kernel
theorem d_Mo_job_75 : decode cc_Mo_job 75 = .ok (.iaload, 1) := by decide +kernel
theorem d_Mo_job_76 : decode cc_Mo_job 76 = .ok (.ireturn, 1) := by decide +kernel
theorem d_Mo_job_77 : decode cc_Mo_job 77 = .ok (.aload_n 0, 1) := by decide +kernel
theorem d_Mo_job_78 : decode cc_Mo_job 78 = .ok (.iload_n 1, 1) := by decide +kernel
theorem d_Mo_job_79 : decode cc_Mo_job 79 = .ok (.invokevirtual 199, 3) := by decide +kernel
theorem d_Mo_job_82 : decode cc_Mo_job 82 = .ok (.ireturn, 1) := by decide +kernel
theorem d_Mo_job_83 : decode cc_Mo_job 83 = .ok (.aload_n 0, 1) := by decide +kernel
theorem d_Mo_job_84 : decode cc_Mo_job 84 = .ok (.getfield 20, 3) := by decide +kernel
theorem d_Mo_job_87 : decode cc_Mo_job 87 = .ok (.iload_n 1, 1) := by decide +kernel
theorem d_Mo_job_88 : decode cc_Mo_job 88 = .ok (.iaload, 1) := by decide +kernel
theorem d_Mo_job_89 : decode cc_Mo_job 89 = .ok (.ireturn, 1) := by decide +kernel
theorem d_Mo_job_90 : decode cc_Mo_job 90 = .ok (.aload_n 0, 1) := by decide +kernel
theorem d_Mo_job_91 : decode cc_Mo_job 91 = .ok (.iconst 2, 1) := by decide +kernel
theorem d_Mo_job_92 : decode cc_Mo_job 92 = .ok (.invokevirtual 110, 3) := by decide +kernel
theorem d_Mo_job_95 : decode cc_Mo_job 95 = .ok (.ireturn, 1) := by decide +kernel
theorem d_Mo_join_0 : decode cc_Mo_join 0 = .ok (.aload_n 0, 1) := by decide +kernel
theorem d_Mo_join_1 : decode cc_Mo_join 1 = .ok (.iconst 0, 1) := by decide +kernel
theorem d_Mo_join_2 : decode cc_Mo_join 2 = .ok (.putfield 96, 3) := by decide +kernel
theorem d_Mo_join_5 : decode cc_Mo_join 5 = .ok (.aload_n 0, 1) := by decide +kernel
theorem d_Mo_join_6 : decode cc_Mo_join 6 = .ok (.iload_n 1, 1) := by decide +kernel
theorem d_Mo_join_7 : decode cc_Mo_join 7 = .ok (.invokevirtual 196, 3) := by decide +kernel
theorem d_Mo_join_10 : decode cc_Mo_join 10 = .ok (.ifCond .eq 9, 3) := by decide +kernel
theorem d_Mo_join_13 : decode cc_Mo_join 13 = .ok (.aload_n 0, 1) := by decide +kernel
theorem d_Mo_join_14 : decode cc_Mo_join 14 = .ok (.iconst 1, 1) := by decide +kernel
theorem d_Mo_join_15 : decode cc_Mo_join 15 = .ok (.invokevirtual 110, 3) := by decide +kernel
theorem d_Mo_join_18 : decode cc_Mo_join 18 = .ok (.ireturn, 1) := by decide +kernel
theorem d_Mo_join_19 : decode cc_Mo_join 19 = .ok (.iconst 0, 1) := by decide +kernel
theorem d_Mo_join_20 : decode cc_Mo_join 20 = .ok (.istore_n 2, 1) := by decide +kernel
theorem d_Mo_join_21 : decode cc_Mo_join 21 = .ok (.aload_n 0, 1) := by decide +kernel
theorem d_Mo_join_22 : decode cc_Mo_join 22 = .ok (.getfield 32, 3) := by decide +kernel
theorem d_Mo_join_25 : decode cc_Mo_join 25 = .ok (.iload_n 1, 1) := by decide +kernel
theorem d_Mo_join_26 : decode cc_Mo_join 26 = .ok (.iaload, 1) := by decide +kernel
theorem d_Mo_join_27 : decode cc_Mo_join 27 = .ok (.ifCond .ne 14, 3) := by decide +kernel
theorem d_Mo_join_30 : decode cc_Mo_join 30 = .ok (.aload_n 0, 1) := by decide +kernel
theorem d_Mo_join_31 : decode cc_Mo_join 31 = .ok (.invokevirtual 192, 3) := by decide +kernel
theorem d_Mo_join_34 : decode cc_Mo_join 34 = .ok (.pop, 1) := by decide +kernel
theorem d_Mo_join_35 : decode cc_Mo_join 35 = .ok (.iinc 2 1, 3) := by decide +kernel
theorem d_Mo_join_38 : decode cc_Mo_join 38 = .ok (.goto (-17), 3) := by decide +kernel
theorem d_Mo_join_41 : decode cc_Mo_join 41 = .ok (.aload_n 0, 1) := by decide +kernel
theorem d_Mo_join_42 : decode cc_Mo_join 42 = .ok (.getfield 32, 3) := by decide +kernel
theorem d_Mo_join_45 : decode cc_Mo_join 45 = .ok (.iload_n 1, 1) := by decide +kernel
theorem d_Mo_join_46 : decode cc_Mo_join 46 = .ok (.iaload, 1) := by decide +kernel
theorem d_Mo_join_47 : decode cc_Mo_join 47 = .ok (.iconst 2, 1) := by decide +kernel
theorem d_Mo_join_48 : decode cc_Mo_join 48 = .ok (.if_icmp .ne 11, 3) := by decide +kernel
theorem d_Mo_join_51 : decode cc_Mo_join 51 = .ok (.aload_n 0, 1) := by decide +kernel
theorem d_Mo_join_52 : decode cc_Mo_join 52 = .ok (.iconst 2, 1) := by decide +kernel
theorem d_Mo_join_53 : decode cc_Mo_join 53 = .ok (.invokevirtual 110, 3) := by decide +kernel
theorem d_Mo_join_56 : decode cc_Mo_join 56 = .ok (.goto 4, 3) := by decide +kernel
theorem d_Mo_join_59 : decode cc_Mo_join 59 = .ok (.iload_n 2, 1) := by decide +kernel
theorem d_Mo_join_60 : decode cc_Mo_join 60 = .ok (.ireturn, 1) := by decide +kernel
theorem d_Mo_joined_0 : decode cc_Mo_joined 0 = .ok (.aload_n 0, 1) := by decide +kernel
theorem d_Mo_joined_1 : decode cc_Mo_joined 1 = .ok (.getfield 20, 3) := by decide +kernel
theorem d_Mo_joined_4 : decode cc_Mo_joined 4 = .ok (.iload_n 1, 1) := by decide +kernel
theorem d_Mo_joined_5 : decode cc_Mo_joined 5 = .ok (.iaload, 1) := by decide +kernel
theorem d_Mo_joined_6 : decode cc_Mo_joined 6 = .ok (.iconst 1, 1) := by decide +kernel
theorem d_Mo_joined_7 : decode cc_Mo_joined 7 = .ok (.if_icmp .ne 17, 3) := by decide +kernel
theorem d_Mo_joined_10 : decode cc_Mo_joined 10 = .ok (.lload_n 2, 1) := by decide +kernel
theorem d_Mo_joined_11 : decode cc_Mo_joined 11 = .ok (.lload 4, 2) := by decide +kernel
theorem d_Mo_joined_13 : decode cc_Mo_joined 13 = .ok (.lcmp, 1) := by decide +kernel
theorem d_Mo_joined_14 : decode cc_Mo_joined 14 = .ok (.ifCond .le 7, 3) := by decide +kernel
theorem d_Mo_joined_17 : decode cc_Mo_joined 17 = .ok (.lload_n 2, 1) := by decide +kernel
theorem d_Mo_joined_18 : decode cc_Mo_joined 18 = .ok (.goto 5, 3) := by decide +kernel
theorem d_Mo_joined_21 : decode cc_Mo_joined 21 = .ok (.lload 4, 2) := by decide +kernel
theorem d_Mo_joined_23 : decode cc_Mo_joined 23 = .ok (.lreturn, 1) := by decide +kernel
theorem d_Mo_joined_24 : decode cc_Mo_joined 24 = .ok (.aload_n 0, 1) := by decide +kernel
theorem d_Mo_joined_25 : decode cc_Mo_joined 25 = .ok (.getfield 7, 3) := by decide +kernel
theorem d_Mo_joined_28 : decode cc_Mo_joined 28 = .ok (.aload_n 0, 1) := by decide +kernel
theorem d_Mo_joined_29 : decode cc_Mo_joined 29 = .ok (.getfield 23, 3) := by decide +kernel
theorem d_Mo_joined_32 : decode cc_Mo_joined 32 = .ok (.iload_n 1, 1) := by decide +kernel
theorem d_Mo_joined_33 : decode cc_Mo_joined 33 = .ok (.iaload, 1) := by decide +kernel
theorem d_Mo_joined_34 : decode cc_Mo_joined 34 = .ok (.iaload, 1) := by decide +kernel
theorem d_Mo_joined_35 : decode cc_Mo_joined 35 = .ok (.lload_n 2, 1) := by decide +kernel
theorem d_Mo_joined_36 : decode cc_Mo_joined 36 = .ok (.lload 4, 2) := by decide +kernel
theorem d_Mo_joined_38 : decode cc_Mo_joined 38 = .ok (.ladd, 1) := by decide +kernel
theorem d_Mo_joined_39 : decode cc_Mo_joined 39 = .ok (.invokestatic 122, 3) := by decide +kernel
theorem d_Mo_joined_42 : decode cc_Mo_joined 42 = .ok (.lreturn, 1) := by decide +kernel
theorem d_Mo_kept_0 : decode cc_Mo_kept 0 = .ok (.iload_n 0, 1) := by decide +kernel
theorem d_Mo_kept_1 : decode cc_Mo_kept 1 = .ok (.tableswitch 47 0 3 #[31, 36, 41, 45], 31) := by decide +kernel
theorem d_Mo_kept_32 : decode cc_Mo_kept 32 = .ok (.lload_n 1, 1) := by decide +kernel
theorem d_Mo_kept_33 : decode cc_Mo_kept 33 = .ok (.l2i, 1) := by decide +kernel
theorem d_Mo_kept_34 : decode cc_Mo_kept 34 = .ok (.i2b, 1) := by decide +kernel
theorem d_Mo_kept_35 : decode cc_Mo_kept 35 = .ok (.i2l, 1) := by decide +kernel
theorem d_Mo_kept_36 : decode cc_Mo_kept 36 = .ok (.lreturn, 1) := by decide +kernel
theorem d_Mo_kept_37 : decode cc_Mo_kept 37 = .ok (.lload_n 1, 1) := by decide +kernel
theorem d_Mo_kept_38 : decode cc_Mo_kept 38 = .ok (.l2i, 1) := by decide +kernel
theorem d_Mo_kept_39 : decode cc_Mo_kept 39 = .ok (.i2s, 1) := by decide +kernel
theorem d_Mo_kept_40 : decode cc_Mo_kept 40 = .ok (.i2l, 1) := by decide +kernel
theorem d_Mo_kept_41 : decode cc_Mo_kept 41 = .ok (.lreturn, 1) := by decide +kernel
theorem d_Mo_kept_42 : decode cc_Mo_kept 42 = .ok (.lload_n 1, 1) := by decide +kernel
theorem d_Mo_kept_43 : decode cc_Mo_kept 43 = .ok (.l2i, 1) := by decide +kernel
theorem d_Mo_kept_44 : decode cc_Mo_kept 44 = .ok (.i2l, 1) := by decide +kernel
theorem d_Mo_kept_45 : decode cc_Mo_kept 45 = .ok (.lreturn, 1) := by decide +kernel
theorem d_Mo_kept_46 : decode cc_Mo_kept 46 = .ok (.lload_n 1, 1) := by decide +kernel
theorem d_Mo_kept_47 : decode cc_Mo_kept 47 = .ok (.lreturn, 1) := by decide +kernel
theorem d_Mo_kept_48 : decode cc_Mo_kept 48 = .ok (.lload_n 1, 1) := by decide +kernel
theorem d_Mo_kept_49 : decode cc_Mo_kept 49 = .ok (.ldc2_w 99, 3) := by decide +kernel
theorem d_Mo_kept_52 : decode cc_Mo_kept 52 = .ok (.lcmp, 1) := by decide +kernel
theorem d_Mo_kept_53 : decode cc_Mo_kept 53 = .ok (.ifCond .ge 9, 3) := by decide +kernel
theorem d_Mo_kept_56 : decode cc_Mo_kept 56 = .ok (.ldc2_w 99, 3) := by decide +kernel
theorem d_Mo_kept_59 : decode cc_Mo_kept 59 = .ok (.goto 18, 3) := by decide +kernel
theorem d_Mo_kept_62 : decode cc_Mo_kept 62 = .ok (.lload_n 1, 1) := by decide +kernel
theorem d_Mo_kept_63 : decode cc_Mo_kept 63 = .ok (.ldc2_w 101, 3) := by decide +kernel
theorem d_Mo_kept_66 : decode cc_Mo_kept 66 = .ok (.lcmp, 1) := by decide +kernel
theorem d_Mo_kept_67 : decode cc_Mo_kept 67 = .ok (.ifCond .le 9, 3) := by decide +kernel
theorem d_Mo_kept_70 : decode cc_Mo_kept 70 = .ok (.ldc2_w 101, 3) := by decide +kernel
theorem d_Mo_kept_73 : decode cc_Mo_kept 73 = .ok (.goto 4, 3) := by decide +kernel
theorem d_Mo_kept_76 : decode cc_Mo_kept 76 = .ok (.lload_n 1, 1) := by decide +kernel
theorem d_Mo_kept_77 : decode cc_Mo_kept 77 = .ok (.lreturn, 1) := by decide +kernel
theorem d_Mo_leaf_0 : decode cc_Mo_leaf 0 = .ok (.aload_n 0, 1) := by decide +kernel
theorem d_Mo_leaf_1 : decode cc_Mo_leaf 1 = .ok (.getfield 47, 3) := by decide +kernel
theorem d_Mo_leaf_4 : decode cc_Mo_leaf 4 = .ok (.iload_n 1, 1) := by decide +kernel
theorem d_Mo_leaf_5 : decode cc_Mo_leaf 5 = .ok (.iaload, 1) := by decide +kernel
theorem d_Mo_leaf_6 : decode cc_Mo_leaf 6 = .ok (.istore_n 2, 1) := by decide +kernel
theorem d_Mo_leaf_7 : decode cc_Mo_leaf 7 = .ok (.bipush 24, 2) := by decide +kernel
theorem d_Mo_leaf_9 : decode cc_Mo_leaf 9 = .ok (.aload_n 0, 1) := by decide +kernel
theorem d_Mo_leaf_10 : decode cc_Mo_leaf 10 = .ok (.getfield 23, 3) := by decide +kernel
theorem d_Mo_leaf_13 : decode cc_Mo_leaf 13 = .ok (.iload_n 2, 1) := by decide +kernel
theorem d_Mo_leaf_14 : decode cc_Mo_leaf 14 = .ok (.iaload, 1) := by decide +kernel
theorem d_Mo_leaf_15 : decode cc_Mo_leaf 15 = .ok (.imul, 1) := by decide +kernel
theorem d_Mo_leaf_16 : decode cc_Mo_leaf 16 = .ok (.istore_n 3, 1) := by decide +kernel
theorem d_Mo_leaf_17 : decode cc_Mo_leaf 17 = .ok (.aload_n 0, 1) := by decide +kernel
theorem d_Mo_leaf_18 : decode cc_Mo_leaf 18 = .ok (.getfield 20, 3) := by decide +kernel
theorem d_Mo_leaf_21 : decode cc_Mo_leaf 21 = .ok (.iload_n 2, 1) := by decide +kernel
theorem d_Mo_leaf_22 : decode cc_Mo_leaf 22 = .ok (.iaload, 1) := by decide +kernel
theorem d_Mo_leaf_23 : decode cc_Mo_leaf 23 = .ok (.iconst 2, 1) := by decide +kernel
theorem d_Mo_leaf_24 : decode cc_Mo_leaf 24 = .ok (.if_icmp .lt 23, 3) := by decide +kernel
theorem d_Mo_leaf_27 : decode cc_Mo_leaf 27 = .ok (.aload_n 0, 1) := by decide +kernel
theorem d_Mo_leaf_28 : decode cc_Mo_leaf 28 = .ok (.getfield 20, 3) := by decide +kernel
theorem d_Mo_leaf_31 : decode cc_Mo_leaf 31 = .ok (.iload_n 2, 1) := by decide +kernel
theorem d_Mo_leaf_32 : decode cc_Mo_leaf 32 = .ok (.iaload, 1) := by decide +kernel
theorem d_Mo_leaf_33 : decode cc_Mo_leaf 33 = .ok (.iconst 2, 1) := by decide +kernel
theorem d_Mo_leaf_34 : decode cc_Mo_leaf 34 = .ok (.if_icmp .ne 27, 3) := by decide +kernel
theorem d_Mo_leaf_37 : decode cc_Mo_leaf 37 = .ok (.aload_n 0, 1) := by decide +kernel
theorem d_Mo_leaf_38 : decode cc_Mo_leaf 38 = .ok (.getfield 44, 3) := by decide +kernel
theorem d_Mo_leaf_41 : decode cc_Mo_leaf 41 = .ok (.iload_n 2, 1) := by decide +kernel
theorem d_Mo_leaf_42 : decode cc_Mo_leaf 42 = .ok (.iaload, 1) := by decide +kernel
theorem d_Mo_leaf_43 : decode cc_Mo_leaf 43 = .ok (.iconst 1, 1) := by decide +kernel
theorem d_Mo_leaf_44 : decode cc_Mo_leaf 44 = .ok (.if_icmp .ne 17, 3) := by decide +kernel
theorem d_Mo_leaf_47 : decode cc_Mo_leaf 47 = .ok (.aload_n 0, 1) := by decide +kernel
theorem d_Mo_leaf_48 : decode cc_Mo_leaf 48 = .ok (.getfield 65, 3) := by decide +kernel
theorem d_Mo_leaf_51 : decode cc_Mo_leaf 51 = .ok (.iload_n 1, 1) := by decide +kernel
theorem d_Mo_leaf_52 : decode cc_Mo_leaf 52 = .ok (.aload_n 0, 1) := by decide +kernel
theorem d_Mo_leaf_53 : decode cc_Mo_leaf 53 = .ok (.iload_n 1, 1) := by decide +kernel
theorem d_Mo_leaf_54 : decode cc_Mo_leaf 54 = .ok (.invokevirtual 153, 3) := by decide +kernel
theorem d_Mo_leaf_57 : decode cc_Mo_leaf 57 = .ok (.lastore, 1) := by decide +kernel
theorem d_Mo_leaf_58 : decode cc_Mo_leaf 58 = .ok (.goto 18, 3) := by decide +kernel
theorem d_Mo_leaf_61 : decode cc_Mo_leaf 61 = .ok (.aload_n 0, 1) := by decide +kernel
theorem d_Mo_leaf_62 : decode cc_Mo_leaf 62 = .ok (.getfield 20, 3) := by decide +kernel
theorem d_Mo_leaf_65 : decode cc_Mo_leaf 65 = .ok (.iload_n 2, 1) := by decide +kernel
theorem d_Mo_leaf_66 : decode cc_Mo_leaf 66 = .ok (.iaload, 1) := by decide +kernel
theorem d_Mo_leaf_67 : decode cc_Mo_leaf 67 = .ok (.iconst 2, 1) := by decide +kernel
theorem d_Mo_leaf_68 : decode cc_Mo_leaf 68 = .ok (.if_icmp .ne 8, 3) := by decide +kernel
theorem d_Mo_leaf_71 : decode cc_Mo_leaf 71 = .ok (.aload_n 0, 1) := by decide +kernel
theorem d_Mo_leaf_72 : decode cc_Mo_leaf 72 = .ok (.iload_n 1, 1) := by decide +kernel
theorem d_Mo_leaf_73 : decode cc_Mo_leaf 73 = .ok (.invokevirtual 157, 3) := by decide +kernel
theorem d_Mo_leaf_76 : decode cc_Mo_leaf 76 = .ok (.aload_n 0, 1) := by decide +kernel
theorem d_Mo_leaf_77 : decode cc_Mo_leaf 77 = .ok (.getfield 20, 3) := by decide +kernel
theorem d_Mo_leaf_80 : decode cc_Mo_leaf 80 = .ok (.iload_n 2, 1) := by decide +kernel
theorem d_Mo_leaf_81 : decode cc_Mo_leaf 81 = .ok (.iaload, 1) := by decide +kernel
theorem d_Mo_leaf_82 : decode cc_Mo_leaf 82 = .ok (.iconst 3, 1) := by decide +kernel
theorem d_Mo_leaf_83 : decode cc_Mo_leaf 83 = .ok (.if_icmp .ne 20, 3) := by decide +kernel
theorem d_Mo_leaf_86 : decode cc_Mo_leaf 86 = .ok (.aload_n 0, 1) := by decide +kernel
theorem d_Mo_leaf_87 : decode cc_Mo_leaf 87 = .ok (.iload_n 3, 1) := by decide +kernel
theorem d_Mo_leaf_88 : decode cc_Mo_leaf 88 = .ok (.aload_n 0, 1) := by decide +kernel
theorem d_Mo_leaf_89 : decode cc_Mo_leaf 89 = .ok (.getfield 50, 3) := by decide +kernel
theorem d_Mo_leaf_92 : decode cc_Mo_leaf 92 = .ok (.iload_n 1, 1) := by decide +kernel
theorem d_Mo_leaf_93 : decode cc_Mo_leaf 93 = .ok (.iaload, 1) := by decide +kernel
theorem d_Mo_leaf_94 : decode cc_Mo_leaf 94 = .ok (.aload_n 0, 1) := by decide +kernel
theorem d_Mo_leaf_95 : decode cc_Mo_leaf 95 = .ok (.getfield 53, 3) := by decide +kernel
theorem d_Mo_leaf_98 : decode cc_Mo_leaf 98 = .ok (.iload_n 1, 1) := by decide +kernel
theorem d_Mo_leaf_99 : decode cc_Mo_leaf 99 = .ok (.iaload, 1) := by decide +kernel
theorem d_Mo_leaf_100 : decode cc_Mo_leaf 100 = .ok (.invokevirtual 161, 3) := by decide +kernel
theorem d_Mo_leaf_103 : decode cc_Mo_leaf 103 = .ok (.aload_n 0, 1) := by decide +kernel
theorem d_Mo_leaf_104 : decode cc_Mo_leaf 104 = .ok (.getfield 50, 3) := by decide +kernel
theorem d_Mo_leaf_107 : decode cc_Mo_leaf 107 = .ok (.iload_n 1, 1) := by decide +kernel
theorem d_Mo_leaf_108 : decode cc_Mo_leaf 108 = .ok (.iaload, 1) := by decide +kernel
theorem d_Mo_leaf_109 : decode cc_Mo_leaf 109 = .ok (.istore 4, 2) := by decide +kernel
theorem d_Mo_leaf_111 : decode cc_Mo_leaf 111 = .ok (.iload 4, 2) := by decide +kernel
theorem d_Mo_leaf_113 : decode cc_Mo_leaf 113 = .ok (.aload_n 0, 1) := by decide +kernel
theorem d_Mo_leaf_114 : decode cc_Mo_leaf 114 = .ok (.getfield 53, 3) := by decide +kernel
theorem d_Mo_leaf_117 : decode cc_Mo_leaf 117 = .ok (.iload_n 1, 1) := by decide +kernel
theorem d_Mo_leaf_118 : decode cc_Mo_leaf 118 = .ok (.iaload, 1) := by decide +kernel
theorem d_Mo_leaf_119 : decode cc_Mo_leaf 119 = .ok (.if_icmp .ge 102, 3) := by decide +kernel
theorem d_Mo_leaf_122 : decode cc_Mo_leaf 122 = .ok (.aload_n 0, 1) := by decide +kernel
theorem d_Mo_leaf_123 : decode cc_Mo_leaf 123 = .ok (.getfield 20, 3) := by decide +kernel
theorem d_Mo_leaf_126 : decode cc_Mo_leaf 126 = .ok (.iload_n 2, 1) := by decide +kernel
theorem d_Mo_leaf_127 : decode cc_Mo_leaf 127 = .ok (.iaload, 1) := by decide +kernel
theorem d_Mo_leaf_128 : decode cc_Mo_leaf 128 = .ok (.iconst 3, 1) := by decide +kernel
theorem d_Mo_leaf_129 : decode cc_Mo_leaf 129 = .ok (.if_icmp .le 92, 3) := by decide +kernel
theorem d_Mo_leaf_132 : decode cc_Mo_leaf 132 = .ok (.aload_n 0, 1) := by decide +kernel
theorem d_Mo_leaf_133 : decode cc_Mo_leaf 133 = .ok (.getfield 20, 3) := by decide +kernel
theorem d_Mo_leaf_136 : decode cc_Mo_leaf 136 = .ok (.iload_n 2, 1) := by decide +kernel
theorem d_Mo_leaf_137 : decode cc_Mo_leaf 137 = .ok (.iaload, 1) := by decide +kernel
theorem d_Mo_leaf_138 : decode cc_Mo_leaf 138 = .ok (.iconst 5, 1) := by decide +kernel
theorem d_Mo_leaf_139 : decode cc_Mo_leaf 139 = .ok (.if_icmp .ne 26, 3) := by decide +kernel
theorem d_Mo_leaf_142 : decode cc_Mo_leaf 142 = .ok (.aload_n 0, 1) := by decide +kernel
theorem d_Mo_leaf_143 : decode cc_Mo_leaf 143 = .ok (.getfield 16, 3) := by decide +kernel
theorem d_Mo_leaf_146 : decode cc_Mo_leaf 146 = .ok (.iload_n 3, 1) := by decide +kernel
theorem d_Mo_leaf_147 : decode cc_Mo_leaf 147 = .ok (.iload 4, 2) := by decide +kernel
theorem d_Mo_leaf_149 : decode cc_Mo_leaf 149 = .ok (.iadd, 1) := by decide +kernel
theorem d_Mo_leaf_150 : decode cc_Mo_leaf 150 = .ok (.laload, 1) := by decide +kernel
theorem d_Mo_leaf_151 : decode cc_Mo_leaf 151 = .ok (.lconst 0, 1) := by decide +kernel
theorem d_Mo_leaf_152 : decode cc_Mo_leaf 152 = .ok (.lcmp, 1) := by decide +kernel
theorem d_Mo_leaf_153 : decode cc_Mo_leaf 153 = .ok (.ifCond .ne 12, 3) := by decide +kernel
theorem d_Mo_leaf_156 : decode cc_Mo_leaf 156 = .ok (.aload_n 0, 1) := by decide +kernel
theorem d_Mo_leaf_157 : decode cc_Mo_leaf 157 = .ok (.iload_n 2, 1) := by decide +kernel
theorem d_Mo_leaf_158 : decode cc_Mo_leaf 158 = .ok (.iload 4, 2) := by decide +kernel
theorem d_Mo_leaf_160 : decode cc_Mo_leaf 160 = .ok (.invokevirtual 165, 3) := by decide +kernel
theorem d_Mo_leaf_163 : decode cc_Mo_leaf 163 = .ok (.iconst 0, 1) := by decide +kernel
theorem d_Mo_leaf_164 : decode cc_Mo_leaf 164 = .ok (.ireturn, 1) := by decide +kernel
theorem d_Mo_leaf_165 : decode cc_Mo_leaf 165 = .ok (.aload_n 0, 1) := by decide +kernel
theorem d_Mo_leaf_166 : decode cc_Mo_leaf 166 = .ok (.getfield 16, 3) := by decide +kernel
theorem d_Mo_leaf_169 : decode cc_Mo_leaf 169 = .ok (.iload_n 3, 1) := by decide +kernel
theorem d_Mo_leaf_170 : decode cc_Mo_leaf 170 = .ok (.iload 4, 2) := by decide +kernel
theorem d_Mo_leaf_172 : decode cc_Mo_leaf 172 = .ok (.iadd, 1) := by decide +kernel
theorem d_Mo_leaf_173 : decode cc_Mo_leaf 173 = .ok (.aload_n 0, 1) := by decide +kernel
theorem d_Mo_leaf_174 : decode cc_Mo_leaf 174 = .ok (.getfield 20, 3) := by decide +kernel
theorem d_Mo_leaf_177 : decode cc_Mo_leaf 177 = .ok (.iload_n 2, 1) := by decide +kernel
theorem d_Mo_leaf_178 : decode cc_Mo_leaf 178 = .ok (.iaload, 1) := by decide +kernel
theorem d_Mo_leaf_179 : decode cc_Mo_leaf 179 = .ok (.iconst 4, 1) := by decide +kernel
theorem d_Mo_leaf_180 : decode cc_Mo_leaf 180 = .ok (.if_icmp .ne 20, 3) := by decide +kernel
theorem d_Mo_leaf_183 : decode cc_Mo_leaf 183 = .ok (.aload_n 0, 1) := by decide +kernel
theorem d_Mo_leaf_184 : decode cc_Mo_leaf 184 = .ok (.iload_n 2, 1) := by decide +kernel
theorem d_Mo_leaf_185 : decode cc_Mo_leaf 185 = .ok (.aload_n 0, 1) := by decide +kernel
theorem d_Mo_leaf_186 : decode cc_Mo_leaf 186 = .ok (.getfield 16, 3) := by decide +kernel
theorem d_Mo_leaf_189 : decode cc_Mo_leaf 189 = .ok (.iload_n 3, 1) := by decide +kernel
theorem d_Mo_leaf_190 : decode cc_Mo_leaf 190 = .ok (.iload 4, 2) := by decide +kernel
theorem d_Mo_leaf_192 : decode cc_Mo_leaf 192 = .ok (.iadd, 1) := by decide +kernel
theorem d_Mo_leaf_193 : decode cc_Mo_leaf 193 = .ok (.laload, 1) := by decide +kernel
theorem d_Mo_leaf_194 : decode cc_Mo_leaf 194 = .ok (.invokevirtual 168, 3) := by decide +kernel
theorem d_Mo_leaf_197 : decode cc_Mo_leaf 197 = .ok (.goto 17, 3) := by decide +kernel
theorem d_Mo_leaf_200 : decode cc_Mo_leaf 200 = .ok (.aload_n 0, 1) := by decide +kernel
theorem d_Mo_leaf_201 : decode cc_Mo_leaf 201 = .ok (.iload_n 2, 1) := by decide +kernel
theorem d_Mo_leaf_202 : decode cc_Mo_leaf 202 = .ok (.aload_n 0, 1) := by decide +kernel
theorem d_Mo_leaf_203 : decode cc_Mo_leaf 203 = .ok (.getfield 16, 3) := by decide +kernel
theorem d_Mo_leaf_206 : decode cc_Mo_leaf 206 = .ok (.iload_n 3, 1) := by decide +kernel
theorem d_Mo_leaf_207 : decode cc_Mo_leaf 207 = .ok (.iload 4, 2) := by decide +kernel
theorem d_Mo_leaf_209 : decode cc_Mo_leaf 209 = .ok (.iadd, 1) := by decide +kernel
theorem d_Mo_leaf_210 : decode cc_Mo_leaf 210 = .ok (.laload, 1) := by decide +kernel
theorem d_Mo_leaf_211 : decode cc_Mo_leaf 211 = .ok (.invokevirtual 171, 3) := by decide +kernel
theorem d_Mo_leaf_214 : decode cc_Mo_leaf 214 = .ok (.lastore, 1) := by decide +kernel
theorem d_Mo_leaf_215 : decode cc_Mo_leaf 215 = .ok (.iinc 4 1, 3) := by decide +kernel
theorem d_Mo_leaf_218 : decode cc_Mo_leaf 218 = .ok (.goto (-107), 3) := by decide +kernel
theorem d_Mo_leaf_221 : decode cc_Mo_leaf 221 = .ok (.iconst 1, 1) := by decide +kernel
theorem d_Mo_leaf_222 : decode cc_Mo_leaf 222 = .ok (.ireturn, 1) := by decide +kernel
theorem d_Mo_mapped_0 : decode cc_Mo_mapped 0 = .ok (.aload_n 0, 1) := by decide +kernel
theorem d_Mo_mapped_1 : decode cc_Mo_mapped 1 = .ok (.getfield 7, 3) := by decide +kernel
theorem d_Mo_mapped_4 : decode cc_Mo_mapped 4 = .ok (.aload_n 0, 1) := by decide +kernel
theorem d_Mo_mapped_5 : decode cc_Mo_mapped 5 = .ok (.getfield 23, 3) := by decide +kernel
theorem d_Mo_mapped_8 : decode cc_Mo_mapped 8 = .ok (.iload_n 1, 1) := by decide +kernel
theorem d_Mo_mapped_9 : decode cc_Mo_mapped 9 = .ok (.iaload, 1) := by decide +kernel
theorem d_Mo_mapped_10 : decode cc_Mo_mapped 10 = .ok (.iaload, 1) := by decide +kernel
theorem d_Mo_mapped_11 : decode cc_Mo_mapped 11 = .ok (.istore 4, 2) := by decide +kernel
theorem d_Mo_mapped_13 : decode cc_Mo_mapped 13 = .ok (.iload 4, 2) := by decide +kernel
theorem d_Mo_mapped_15 : decode cc_Mo_mapped 15 = .ok (.aload_n 0, 1) := by decide +kernel
theorem d_Mo_mapped_16 : decode cc_Mo_mapped 16 = .ok (.getfield 26, 3) := by decide +kernel
theorem d_Mo_mapped_19 : decode cc_Mo_mapped 19 = .ok (.iload_n 1, 1) := by decide +kernel
theorem d_Mo_mapped_20 : decode cc_Mo_mapped 20 = .ok (.iaload, 1) := by decide +kernel
theorem d_Mo_mapped_21 : decode cc_Mo_mapped 21 = .ok (.i2l, 1) := by decide +kernel
theorem d_Mo_mapped_22 : decode cc_Mo_mapped 22 = .ok (.lload_n 2, 1) := by decide +kernel
theorem d_Mo_mapped_23 : decode cc_Mo_mapped 23 = .ok (.lmul, 1) := by decide +kernel
theorem d_Mo_mapped_24 : decode cc_Mo_mapped 24 = .ok (.iload 4, 2) := by decide +kernel
theorem d_Mo_mapped_26 : decode cc_Mo_mapped 26 = .ok (.iconst 4, 1) := by decide +kernel
theorem d_Mo_mapped_27 : decode cc_Mo_mapped 27 = .ok (.if_icmp .ge 13, 3) := by decide +kernel
theorem d_Mo_mapped_30 : decode cc_Mo_mapped 30 = .ok (.aload_n 0, 1) := by decide +kernel
theorem d_Mo_mapped_31 : decode cc_Mo_mapped 31 = .ok (.getfield 29, 3) := by decide +kernel
theorem d_Mo_mapped_34 : decode cc_Mo_mapped 34 = .ok (.iload_n 1, 1) := by decide +kernel
theorem d_Mo_mapped_35 : decode cc_Mo_mapped 35 = .ok (.iaload, 1) := by decide +kernel
theorem d_Mo_mapped_36 : decode cc_Mo_mapped 36 = .ok (.i2l, 1) := by decide +kernel
theorem d_Mo_mapped_37 : decode cc_Mo_mapped 37 = .ok (.goto 14, 3) := by decide +kernel
theorem d_Mo_mapped_40 : decode cc_Mo_mapped 40 = .ok (.ldc2_w 141, 3) := by decide +kernel
theorem d_Mo_mapped_43 : decode cc_Mo_mapped 43 = .ok (.aload_n 0, 1) := by decide +kernel
theorem d_Mo_mapped_44 : decode cc_Mo_mapped 44 = .ok (.getfield 29, 3) := by decide +kernel
theorem d_Mo_mapped_47 : decode cc_Mo_mapped 47 = .ok (.iload_n 1, 1) := by decide +kernel
theorem d_Mo_mapped_48 : decode cc_Mo_mapped 48 = .ok (.iaload, 1) := by decide +kernel
theorem d_Mo_mapped_49 : decode cc_Mo_mapped 49 = .ok (.i2l, 1) := by decide +kernel
theorem d_Mo_mapped_50 : decode cc_Mo_mapped 50 = .ok (.lmul, 1) := by decide +kernel
theorem d_Mo_mapped_51 : decode cc_Mo_mapped 51 = .ok (.ladd, 1) := by decide +kernel
theorem d_Mo_mapped_52 : decode cc_Mo_mapped 52 = .ok (.invokestatic 122, 3) := by decide +kernel
theorem d_Mo_mapped_55 : decode cc_Mo_mapped 55 = .ok (.lreturn, 1) := by decide +kernel
theorem d_Mo_noElement_0 : decode cc_Mo_noElement 0 = .ok (.iload_n 1, 1) := by decide +kernel
theorem d_Mo_noElement_1 : decode cc_Mo_noElement 1 = .ok (.iconst 0, 1) := by decide +kernel
theorem d_Mo_noElement_2 : decode cc_Mo_noElement 2 = .ok (.iconst 3, 1) := by decide +kernel
theorem d_Mo_noElement_3 : decode cc_Mo_noElement 3 = .ok (.invokestatic 106, 3) := by decide +kernel
theorem d_Mo_noElement_6 : decode cc_Mo_noElement 6 = .ok (.ifCond .eq 26, 3) := by decide +kernel
theorem d_Mo_noElement_9 : decode cc_Mo_noElement 9 = .ok (.aload_n 0, 1) := by decide +kernel
theorem d_Mo_noElement_10 : decode cc_Mo_noElement 10 = .ok (.getfield 7, 3) := by decide +kernel
theorem d_Mo_noElement_13 : decode cc_Mo_noElement 13 = .ok (.iload_n 1, 1) := by decide +kernel
theorem d_Mo_noElement_14 : decode cc_Mo_noElement 14 = .ok (.iaload, 1) := by decide +kernel
theorem d_Mo_noElement_15 : decode cc_Mo_noElement 15 = .ok (.ifCond .lt 17, 3) := by decide +kernel
theorem d_Mo_noElement_18 : decode cc_Mo_noElement 18 = .ok (.iload_n 2, 1) := by decide +kernel
theorem d_Mo_noElement_19 : decode cc_Mo_noElement 19 = .ok (.ifCond .lt 13, 3) := by decide +kernel
theorem d_Mo_noElement_22 : decode cc_Mo_noElement 22 = .ok (.iload_n 2, 1) := by decide +kernel
theorem d_Mo_noElement_23 : decode cc_Mo_noElement 23 = .ok (.aload_n 0, 1) := by decide +kernel
theorem d_Mo_noElement_24 : decode cc_Mo_noElement 24 = .ok (.getfield 13, 3) := by decide +kernel
theorem d_Mo_noElement_27 : decode cc_Mo_noElement 27 = .ok (.iload_n 1, 1) := by decide +kernel
theorem d_Mo_noElement_28 : decode cc_Mo_noElement 28 = .ok (.iaload, 1) := by decide +kernel
theorem d_Mo_noElement_29 : decode cc_Mo_noElement 29 = .ok (.if_icmp .lt 7, 3) := by decide +kernel
theorem d_Mo_noElement_32 : decode cc_Mo_noElement 32 = .ok (.iconst 1, 1) := by decide +kernel
theorem d_Mo_noElement_33 : decode cc_Mo_noElement 33 = .ok (.goto 4, 3) := by decide +kernel
theorem d_Mo_noElement_36 : decode cc_Mo_noElement 36 = .ok (.iconst 0, 1) := by decide +kernel
theorem d_Mo_noElement_37 : decode cc_Mo_noElement 37 = .ok (.ireturn, 1) := by decide +kernel
theorem d_Mo_noJob_0 : decode cc_Mo_noJob 0 = .ok (.iload_n 1, 1) := by decide +kernel
theorem d_Mo_noJob_1 : decode cc_Mo_noJob 1 = .ok (.ifCond .lt 11, 3) := by decide +kernel
theorem d_Mo_noJob_4 : decode cc_Mo_noJob 4 = .ok (.iload_n 1, 1) := by decide +kernel
theorem d_Mo_noJob_5 : decode cc_Mo_noJob 5 = .ok (.aload_n 0, 1) := by decide +kernel
theorem d_Mo_noJob_6 : decode cc_Mo_noJob 6 = .ok (.getfield 103, 3) := by decide +kernel
theorem d_Mo_noJob_9 : decode cc_Mo_noJob 9 = .ok (.if_icmp .lt 7, 3) := by decide +kernel
theorem d_Mo_noJob_12 : decode cc_Mo_noJob 12 = .ok (.iconst 1, 1) := by decide +kernel
theorem d_Mo_noJob_13 : decode cc_Mo_noJob 13 = .ok (.goto 4, 3) := by decide +kernel
theorem d_Mo_noJob_16 : decode cc_Mo_noJob 16 = .ok (.iconst 0, 1) := by decide +kernel
theorem d_Mo_noJob_17 : decode cc_Mo_noJob 17 = .ok (.ireturn, 1) := by decide +kernel
theorem d_Mo_node_0 : decode cc_Mo_node 0 = .ok (.aload_n 0, 1) := by decide +kernel
theorem d_Mo_node_1 : decode cc_Mo_node 1 = .ok (.getfield 130, 3) := by decide +kernel
theorem d_Mo_node_4 : decode cc_Mo_node 4 = .ok (.istore 5, 2) := by decide +kernel
theorem d_Mo_node_6 : decode cc_Mo_node 6 = .ok (.aload_n 0, 1) := by decide +kernel
theorem d_Mo_node_7 : decode cc_Mo_node 7 = .ok (.dup, 1) := by decide +kernel
theorem d_Mo_node_8 : decode cc_Mo_node 8 = .ok (.getfield 130, 3) := by decide +kernel
theorem d_Mo_node_11 : decode cc_Mo_node 11 = .ok (.iconst 1, 1) := by decide +kernel
theorem d_Mo_node_12 : decode cc_Mo_node 12 = .ok (.iadd, 1) := by decide +kernel
theorem d_Mo_node_13 : decode cc_Mo_node 13 = .ok (.putfield 130, 3) := by decide +kernel
theorem d_Mo_node_16 : decode cc_Mo_node 16 = .ok (.aload_n 0, 1) := by decide +kernel
theorem d_Mo_node_17 : decode cc_Mo_node 17 = .ok (.getfield 47, 3) := by decide +kernel
theorem d_Mo_node_20 : decode cc_Mo_node 20 = .ok (.iload 5, 2) := by decide +kernel
theorem d_Mo_node_22 : decode cc_Mo_node 22 = .ok (.iload_n 1, 1) := by decide +kernel
theorem d_Mo_node_23 : decode cc_Mo_node 23 = .ok (.iastore, 1) := by decide +kernel
theorem d_Mo_node_24 : decode cc_Mo_node 24 = .ok (.aload_n 0, 1) := by decide +kernel
theorem d_Mo_node_25 : decode cc_Mo_node 25 = .ok (.getfield 50, 3) := by decide +kernel
theorem d_Mo_node_28 : decode cc_Mo_node 28 = .ok (.iload 5, 2) := by decide +kernel
theorem d_Mo_node_30 : decode cc_Mo_node 30 = .ok (.iload_n 2, 1) := by decide +kernel
theorem d_Mo_node_31 : decode cc_Mo_node 31 = .ok (.iastore, 1) := by decide +kernel
theorem d_Mo_node_32 : decode cc_Mo_node 32 = .ok (.aload_n 0, 1) := by decide +kernel
theorem d_Mo_node_33 : decode cc_Mo_node 33 = .ok (.getfield 53, 3) := by decide +kernel
theorem d_Mo_node_36 : decode cc_Mo_node 36 = .ok (.iload 5, 2) := by decide +kernel
theorem d_Mo_node_38 : decode cc_Mo_node 38 = .ok (.iload_n 3, 1) := by decide +kernel
theorem d_Mo_node_39 : decode cc_Mo_node 39 = .ok (.iastore, 1) := by decide +kernel
theorem d_Mo_node_40 : decode cc_Mo_node 40 = .ok (.aload_n 0, 1) := by decide +kernel
theorem d_Mo_node_41 : decode cc_Mo_node 41 = .ok (.getfield 56, 3) := by decide +kernel
theorem d_Mo_node_44 : decode cc_Mo_node 44 = .ok (.iload 5, 2) := by decide +kernel
theorem d_Mo_node_46 : decode cc_Mo_node 46 = .ok (.iload 4, 2) := by decide +kernel
theorem d_Mo_node_48 : decode cc_Mo_node 48 = .ok (.iastore, 1) := by decide +kernel
theorem d_Mo_node_49 : decode cc_Mo_node 49 = .ok (.aload_n 0, 1) := by decide +kernel
theorem d_Mo_node_50 : decode cc_Mo_node 50 = .ok (.getfield 59, 3) := by decide +kernel
theorem d_Mo_node_53 : decode cc_Mo_node 53 = .ok (.iload 5, 2) := by decide +kernel
theorem d_Mo_node_55 : decode cc_Mo_node 55 = .ok (.iconst (-1), 1) := by decide +kernel
theorem d_Mo_node_56 : decode cc_Mo_node 56 = .ok (.iastore, 1) := by decide +kernel
theorem d_Mo_node_57 : decode cc_Mo_node 57 = .ok (.aload_n 0, 1) := by decide +kernel
theorem d_Mo_node_58 : decode cc_Mo_node 58 = .ok (.getfield 62, 3) := by decide +kernel
theorem d_Mo_node_61 : decode cc_Mo_node 61 = .ok (.iload 5, 2) := by decide +kernel
theorem d_Mo_node_63 : decode cc_Mo_node 63 = .ok (.iconst 0, 1) := by decide +kernel
theorem d_Mo_node_64 : decode cc_Mo_node 64 = .ok (.iastore, 1) := by decide +kernel
theorem d_Mo_node_65 : decode cc_Mo_node 65 = .ok (.aload_n 0, 1) := by decide +kernel
theorem d_Mo_node_66 : decode cc_Mo_node 66 = .ok (.getfield 68, 3) := by decide +kernel
theorem d_Mo_node_69 : decode cc_Mo_node 69 = .ok (.iload 5, 2) := by decide +kernel
theorem d_Mo_node_71 : decode cc_Mo_node 71 = .ok (.lconst 0, 1) := by decide +kernel
theorem d_Mo_node_72 : decode cc_Mo_node 72 = .ok (.lastore, 1) := by decide +kernel
theorem d_Mo_node_73 : decode cc_Mo_node 73 = .ok (.iload 5, 2) := by decide +kernel
theorem d_Mo_node_75 : decode cc_Mo_node 75 = .ok (.ireturn, 1) := by decide +kernel
theorem d_Mo_order_0 : decode cc_Mo_order 0 = .ok (.iload_n 1, 1) := by decide +kernel
theorem d_Mo_order_1 : decode cc_Mo_order 1 = .ok (.iload_n 2, 1) := by decide +kernel
theorem d_Mo_order_2 : decode cc_Mo_order 2 = .ok (.iadd, 1) := by decide +kernel
theorem d_Mo_order_3 : decode cc_Mo_order 3 = .ok (.iconst 1, 1) := by decide +kernel
theorem d_Mo_order_4 : decode cc_Mo_order 4 = .ok (.iadd, 1) := by decide +kernel
theorem d_Mo_order_5 : decode cc_Mo_order 5 = .ok (.istore 4, 2) := by decide +kernel
theorem d_Mo_order_7 : decode cc_Mo_order 7 = .ok (.iload 4, 2) := by decide +kernel
theorem d_Mo_order_9 : decode cc_Mo_order 9 = .ok (.iload_n 1, 1) := by decide +kernel
theorem d_Mo_order_10 : decode cc_Mo_order 10 = .ok (.iload_n 3, 1) := by decide +kernel
theorem d_Mo_order_11 : decode cc_Mo_order 11 = .ok (.iadd, 1) := by decide +kernel
theorem d_Mo_order_12 : decode cc_Mo_order 12 = .ok (.if_icmp .ge 83, 3) := by decide +kernel
theorem d_Mo_order_15 : decode cc_Mo_order 15 = .ok (.iload 4, 2) := by decide +kernel
theorem d_Mo_order_17 : decode cc_Mo_order 17 = .ok (.istore 5, 2) := by decide +kernel
theorem d_Mo_order_19 : decode cc_Mo_order 19 = .ok (.iload 5, 2) := by decide +kernel
theorem d_Mo_order_21 : decode cc_Mo_order 21 = .ok (.iload_n 1, 1) := by decide +kernel
theorem d_Mo_order_22 : decode cc_Mo_order 22 = .ok (.iload_n 2, 1) := by decide +kernel
theorem d_Mo_order_23 : decode cc_Mo_order 23 = .ok (.iadd, 1) := by decide +kernel
theorem d_Mo_order_24 : decode cc_Mo_order 24 = .ok (.if_icmp .le 65, 3) := by decide +kernel
theorem d_Mo_order_27 : decode cc_Mo_order 27 = .ok (.aload_n 0, 1) := by decide +kernel
theorem d_Mo_order_28 : decode cc_Mo_order 28 = .ok (.getfield 16, 3) := by decide +kernel
theorem d_Mo_order_31 : decode cc_Mo_order 31 = .ok (.iload 5, 2) := by decide +kernel
theorem d_Mo_order_33 : decode cc_Mo_order 33 = .ok (.iconst 1, 1) := by decide +kernel
theorem d_Mo_order_34 : decode cc_Mo_order 34 = .ok (.isub, 1) := by decide +kernel
theorem d_Mo_order_35 : decode cc_Mo_order 35 = .ok (.laload, 1) := by decide +kernel
theorem d_Mo_order_36 : decode cc_Mo_order 36 = .ok (.aload_n 0, 1) := by decide +kernel
theorem d_Mo_order_37 : decode cc_Mo_order 37 = .ok (.getfield 16, 3) := by decide +kernel
theorem d_Mo_order_40 : decode cc_Mo_order 40 = .ok (.iload 5, 2) := by decide +kernel
theorem d_Mo_order_42 : decode cc_Mo_order 42 = .ok (.laload, 1) := by decide +kernel
theorem d_Mo_order_43 : decode cc_Mo_order 43 = .ok (.lcmp, 1) := by decide +kernel
theorem d_Mo_order_44 : decode cc_Mo_order 44 = .ok (.ifCond .le 45, 3) := by decide +kernel
theorem d_Mo_order_47 : decode cc_Mo_order 47 = .ok (.aload_n 0, 1) := by decide +kernel
theorem d_Mo_order_48 : decode cc_Mo_order 48 = .ok (.getfield 16, 3) := by decide +kernel
theorem d_Mo_order_51 : decode cc_Mo_order 51 = .ok (.iload 5, 2) := by decide +kernel
theorem d_Mo_order_53 : decode cc_Mo_order 53 = .ok (.laload, 1) := by decide +kernel
theorem d_Mo_order_54 : decode cc_Mo_order 54 = .ok (.lstore 6, 2) := by decide +kernel
theorem d_Mo_order_56 : decode cc_Mo_order 56 = .ok (.aload_n 0, 1) := by decide +kernel
theorem d_Mo_order_57 : decode cc_Mo_order 57 = .ok (.getfield 16, 3) := by decide +kernel
theorem d_Mo_order_60 : decode cc_Mo_order 60 = .ok (.iload 5, 2) := by decide +kernel
theorem d_Mo_order_62 : decode cc_Mo_order 62 = .ok (.aload_n 0, 1) := by decide +kernel
theorem d_Mo_order_63 : decode cc_Mo_order 63 = .ok (.getfield 16, 3) := by decide +kernel
theorem d_Mo_order_66 : decode cc_Mo_order 66 = .ok (.iload 5, 2) := by decide +kernel
theorem d_Mo_order_68 : decode cc_Mo_order 68 = .ok (.iconst 1, 1) := by decide +kernel
theorem d_Mo_order_69 : decode cc_Mo_order 69 = .ok (.isub, 1) := by decide +kernel
theorem d_Mo_order_70 : decode cc_Mo_order 70 = .ok (.laload, 1) := by decide +kernel
theorem d_Mo_order_71 : decode cc_Mo_order 71 = .ok (.lastore, 1) := by decide +kernel
theorem d_Mo_order_72 : decode cc_Mo_order 72 = .ok (.aload_n 0, 1) := by decide +kernel
theorem d_Mo_order_73 : decode cc_Mo_order 73 = .ok (.getfield 16, 3) := by decide +kernel
theorem d_Mo_order_76 : decode cc_Mo_order 76 = .ok (.iload 5, 2) := by decide +kernel
theorem d_Mo_order_78 : decode cc_Mo_order 78 = .ok (.iconst 1, 1) := by decide +kernel
theorem d_Mo_order_79 : decode cc_Mo_order 79 = .ok (.isub, 1) := by decide +kernel
theorem d_Mo_order_80 : decode cc_Mo_order 80 = .ok (.lload 6, 2) := by decide +kernel
theorem d_Mo_order_82 : decode cc_Mo_order 82 = .ok (.lastore, 1) := by decide +kernel
theorem d_Mo_order_83 : decode cc_Mo_order 83 = .ok (.iinc 5 (-1), 3) := by decide +kernel
theorem d_Mo_order_86 : decode cc_Mo_order 86 = .ok (.goto (-67), 3) := by decide +kernel
theorem d_Mo_order_89 : decode cc_Mo_order 89 = .ok (.iinc 4 1, 3) := by decide +kernel
theorem d_Mo_order_92 : decode cc_Mo_order 92 = .ok (.goto (-85), 3) := by decide +kernel
theorem d_Mo_order_95 : decode cc_Mo_order 95 = .ok (.return_, 1) := by decide +kernel
theorem d_Mo_perform_0 : decode cc_Mo_perform 0 = .ok (.aload_n 0, 1) := by decide +kernel
theorem d_Mo_perform_1 : decode cc_Mo_perform 1 = .ok (.getfield 47, 3) := by decide +kernel
theorem d_Mo_perform_4 : decode cc_Mo_perform 4 = .ok (.iload_n 1, 1) := by decide +kernel
theorem d_Mo_perform_5 : decode cc_Mo_perform 5 = .ok (.iaload, 1) := by decide +kernel
theorem d_Mo_perform_6 : decode cc_Mo_perform 6 = .ok (.istore_n 3, 1) := by decide +kernel
theorem d_Mo_perform_7 : decode cc_Mo_perform 7 = .ok (.aload_n 0, 1) := by decide +kernel
theorem d_Mo_perform_8 : decode cc_Mo_perform 8 = .ok (.getfield 38, 3) := by decide +kernel
theorem d_Mo_perform_11 : decode cc_Mo_perform 11 = .ok (.iload_n 3, 1) := by decide +kernel
theorem d_Mo_perform_12 : decode cc_Mo_perform 12 = .ok (.dup2, 1) := by decide +kernel
theorem d_Mo_perform_13 : decode cc_Mo_perform 13 = .ok (.iaload, 1) := by decide +kernel
theorem d_Mo_perform_14 : decode cc_Mo_perform 14 = .ok (.iconst 1, 1) := by decide +kernel
theorem d_Mo_perform_15 : decode cc_Mo_perform 15 = .ok (.iadd, 1) := by decide +kernel
theorem d_Mo_perform_16 : decode cc_Mo_perform 16 = .ok (.iastore, 1) := by decide +kernel
theorem d_Mo_perform_17 : decode cc_Mo_perform 17 = .ok (.aload_n 0, 1) := by decide +kernel
theorem d_Mo_perform_18 : decode cc_Mo_perform 18 = .ok (.getfield 77, 3) := by decide +kernel
theorem d_Mo_perform_21 : decode cc_Mo_perform 21 = .ok (.iload_n 2, 1) := by decide +kernel
theorem d_Mo_perform_22 : decode cc_Mo_perform 22 = .ok (.dup2, 1) := by decide +kernel
theorem d_Mo_perform_23 : decode cc_Mo_perform 23 = .ok (.iaload, 1) := by decide +kernel
theorem d_Mo_perform_24 : decode cc_Mo_perform 24 = .ok (.iconst 1, 1) := by decide +kernel
theorem d_Mo_perform_25 : decode cc_Mo_perform 25 = .ok (.iadd, 1) := by decide +kernel
theorem d_Mo_perform_26 : decode cc_Mo_perform 26 = .ok (.iastore, 1) := by decide +kernel
theorem d_Mo_perform_27 : decode cc_Mo_perform 27 = .ok (.aload_n 0, 1) := by decide +kernel
theorem d_Mo_perform_28 : decode cc_Mo_perform 28 = .ok (.getfield 44, 3) := by decide +kernel
theorem d_Mo_perform_31 : decode cc_Mo_perform 31 = .ok (.iload_n 3, 1) := by decide +kernel
theorem d_Mo_perform_32 : decode cc_Mo_perform 32 = .ok (.iaload, 1) := by decide +kernel
theorem d_Mo_perform_33 : decode cc_Mo_perform 33 = .ok (.iconst 1, 1) := by decide +kernel
theorem d_Mo_perform_34 : decode cc_Mo_perform 34 = .ok (.if_icmp .ne 31, 3) := by decide +kernel
theorem d_Mo_perform_37 : decode cc_Mo_perform 37 = .ok (.aload_n 0, 1) := by decide +kernel
theorem d_Mo_perform_38 : decode cc_Mo_perform 38 = .ok (.getfield 53, 3) := by decide +kernel
theorem d_Mo_perform_41 : decode cc_Mo_perform 41 = .ok (.iload_n 1, 1) := by decide +kernel
theorem d_Mo_perform_42 : decode cc_Mo_perform 42 = .ok (.iaload, 1) := by decide +kernel
theorem d_Mo_perform_43 : decode cc_Mo_perform 43 = .ok (.aload_n 0, 1) := by decide +kernel
theorem d_Mo_perform_44 : decode cc_Mo_perform 44 = .ok (.getfield 50, 3) := by decide +kernel
theorem d_Mo_perform_47 : decode cc_Mo_perform 47 = .ok (.iload_n 1, 1) := by decide +kernel
theorem d_Mo_perform_48 : decode cc_Mo_perform 48 = .ok (.iaload, 1) := by decide +kernel
theorem d_Mo_perform_49 : decode cc_Mo_perform 49 = .ok (.isub, 1) := by decide +kernel
theorem d_Mo_perform_50 : decode cc_Mo_perform 50 = .ok (.aload_n 0, 1) := by decide +kernel
theorem d_Mo_perform_51 : decode cc_Mo_perform 51 = .ok (.getfield 89, 3) := by decide +kernel
theorem d_Mo_perform_54 : decode cc_Mo_perform 54 = .ok (.if_icmp .le 7, 3) := by decide +kernel
theorem d_Mo_perform_57 : decode cc_Mo_perform 57 = .ok (.iconst 1, 1) := by decide +kernel
theorem d_Mo_perform_58 : decode cc_Mo_perform 58 = .ok (.goto 21, 3) := by decide +kernel
theorem d_Mo_perform_61 : decode cc_Mo_perform 61 = .ok (.iconst 0, 1) := by decide +kernel
theorem d_Mo_perform_62 : decode cc_Mo_perform 62 = .ok (.goto 17, 3) := by decide +kernel
theorem d_Mo_perform_65 : decode cc_Mo_perform 65 = .ok (.aload_n 0, 1) := by decide +kernel
theorem d_Mo_perform_66 : decode cc_Mo_perform 66 = .ok (.getfield 59, 3) := by decide +kernel
theorem d_Mo_perform_69 : decode cc_Mo_perform 69 = .ok (.iload_n 1, 1) := by decide +kernel
theorem d_Mo_perform_70 : decode cc_Mo_perform 70 = .ok (.iaload, 1) := by decide +kernel
theorem d_Mo_perform_71 : decode cc_Mo_perform 71 = .ok (.ifCond .lt 7, 3) := by decide +kernel
theorem d_Mo_perform_74 : decode cc_Mo_perform 74 = .ok (.iconst 1, 1) := by decide +kernel
theorem d_Mo_perform_75 : decode cc_Mo_perform 75 = .ok (.goto 4, 3) := by decide +kernel
theorem d_Mo_perform_78 : decode cc_Mo_perform 78 = .ok (.iconst 0, 1) := by decide +kernel
theorem d_Mo_perform_79 : decode cc_Mo_perform 79 = .ok (.istore 4, 2) := by decide +kernel
theorem d_Mo_perform_81 : decode cc_Mo_perform 81 = .ok (.iload 4, 2) := by decide +kernel
theorem d_Mo_perform_83 : decode cc_Mo_perform 83 = .ok (.ifCond .eq 12, 3) := by decide +kernel
theorem d_Mo_perform_86 : decode cc_Mo_perform 86 = .ok (.aload_n 0, 1) := by decide +kernel
theorem d_Mo_perform_87 : decode cc_Mo_perform 87 = .ok (.iload_n 1, 1) := by decide +kernel
theorem d_Mo_perform_88 : decode cc_Mo_perform 88 = .ok (.iload_n 2, 1) := by decide +kernel
theorem d_Mo_perform_89 : decode cc_Mo_perform 89 = .ok (.invokevirtual 174, 3) := by decide +kernel
theorem d_Mo_perform_92 : decode cc_Mo_perform 92 = .ok (.goto 17, 3) := by decide +kernel
theorem d_Mo_perform_95 : decode cc_Mo_perform 95 = .ok (.aload_n 0, 1) := by decide +kernel
theorem d_Mo_perform_96 : decode cc_Mo_perform 96 = .ok (.iload_n 1, 1) := by decide +kernel
theorem d_Mo_perform_97 : decode cc_Mo_perform 97 = .ok (.invokevirtual 177, 3) := by decide +kernel
theorem d_Mo_perform_100 : decode cc_Mo_perform 100 = .ok (.ifCond .eq 9, 3) := by decide +kernel
theorem d_Mo_perform_103 : decode cc_Mo_perform 103 = .ok (.aload_n 0, 1) := by decide +kernel
theorem d_Mo_perform_104 : decode cc_Mo_perform 104 = .ok (.iload_n 1, 1) := by decide +kernel
theorem d_Mo_perform_105 : decode cc_Mo_perform 105 = .ok (.iload_n 2, 1) := by decide +kernel
theorem d_Mo_perform_106 : decode cc_Mo_perform 106 = .ok (.invokevirtual 180, 3) := by decide +kernel
theorem d_Mo_perform_109 : decode cc_Mo_perform 109 = .ok (.return_, 1) := by decide +kernel
theorem d_Mo_pull_0 : decode cc_Mo_pull 0 = .ok (.aload_n 0, 1) := by decide +kernel
theorem d_Mo_pull_1 : decode cc_Mo_pull 1 = .ok (.getfield 71, 3) := by decide +kernel
theorem d_Mo_pull_4 : decode cc_Mo_pull 4 = .ok (.sipush 600, 3) := by decide +kernel
theorem d_Mo_pull_7 : decode cc_Mo_pull 7 = .ok (.iload_n 1, 1) := by decide +kernel
theorem d_Mo_pull_8 : decode cc_Mo_pull 8 = .ok (.imul, 1) := by decide +kernel
theorem d_Mo_pull_9 : decode cc_Mo_pull 9 = .ok (.iload_n 2, 1) := by decide +kernel
theorem d_Mo_pull_10 : decode cc_Mo_pull 10 = .ok (.iadd, 1) := by decide +kernel
theorem d_Mo_pull_11 : decode cc_Mo_pull 11 = .ok (.iaload, 1) := by decide +kernel
theorem d_Mo_pull_12 : decode cc_Mo_pull 12 = .ok (.istore_n 3, 1) := by decide +kernel
theorem d_Mo_pull_13 : decode cc_Mo_pull 13 = .ok (.aload_n 0, 1) := by decide +kernel
theorem d_Mo_pull_14 : decode cc_Mo_pull 14 = .ok (.getfield 74, 3) := by decide +kernel
theorem d_Mo_pull_17 : decode cc_Mo_pull 17 = .ok (.iload_n 1, 1) := by decide +kernel
theorem d_Mo_pull_18 : decode cc_Mo_pull 18 = .ok (.dup2, 1) := by decide +kernel
theorem d_Mo_pull_19 : decode cc_Mo_pull 19 = .ok (.iaload, 1) := by decide +kernel
theorem d_Mo_pull_20 : decode cc_Mo_pull 20 = .ok (.iconst 1, 1) := by decide +kernel
theorem d_Mo_pull_21 : decode cc_Mo_pull 21 = .ok (.isub, 1) := by decide +kernel
theorem d_Mo_pull_22 : decode cc_Mo_pull 22 = .ok (.iastore, 1) := by decide +kernel
theorem d_Mo_pull_23 : decode cc_Mo_pull 23 = .ok (.iload_n 2, 1) := by decide +kernel
theorem d_Mo_pull_24 : decode cc_Mo_pull 24 = .ok (.istore 4, 2) := by decide +kernel
theorem d_Mo_pull_26 : decode cc_Mo_pull 26 = .ok (.iload 4, 2) := by decide +kernel
theorem d_Mo_pull_28 : decode cc_Mo_pull 28 = .ok (.aload_n 0, 1) := by decide +kernel
theorem d_Mo_pull_29 : decode cc_Mo_pull 29 = .ok (.getfield 74, 3) := by decide +kernel
theorem d_Mo_pull_32 : decode cc_Mo_pull 32 = .ok (.iload_n 1, 1) := by decide +kernel
theorem d_Mo_pull_33 : decode cc_Mo_pull 33 = .ok (.iaload, 1) := by decide +kernel
theorem d_Mo_pull_34 : decode cc_Mo_pull 34 = .ok (.if_icmp .ge 37, 3) := by decide +kernel
theorem d_Mo_pull_37 : decode cc_Mo_pull 37 = .ok (.aload_n 0, 1) := by decide +kernel
theorem d_Mo_pull_38 : decode cc_Mo_pull 38 = .ok (.getfield 71, 3) := by decide +kernel
theorem d_Mo_pull_41 : decode cc_Mo_pull 41 = .ok (.sipush 600, 3) := by decide +kernel
theorem d_Mo_pull_44 : decode cc_Mo_pull 44 = .ok (.iload_n 1, 1) := by decide +kernel
theorem d_Mo_pull_45 : decode cc_Mo_pull 45 = .ok (.imul, 1) := by decide +kernel
theorem d_Mo_pull_46 : decode cc_Mo_pull 46 = .ok (.iload 4, 2) := by decide +kernel
theorem d_Mo_pull_48 : decode cc_Mo_pull 48 = .ok (.iadd, 1) := by decide +kernel
theorem d_Mo_pull_49 : decode cc_Mo_pull 49 = .ok (.aload_n 0, 1) := by decide +kernel
theorem d_Mo_pull_50 : decode cc_Mo_pull 50 = .ok (.getfield 71, 3) := by decide +kernel
theorem d_Mo_pull_53 : decode cc_Mo_pull 53 = .ok (.sipush 600, 3) := by decide +kernel
theorem d_Mo_pull_56 : decode cc_Mo_pull 56 = .ok (.iload_n 1, 1) := by decide +kernel
theorem d_Mo_pull_57 : decode cc_Mo_pull 57 = .ok (.imul, 1) := by decide +kernel
theorem d_Mo_pull_58 : decode cc_Mo_pull 58 = .ok (.iload 4, 2) := by decide +kernel
theorem d_Mo_pull_60 : decode cc_Mo_pull 60 = .ok (.iadd, 1) := by decide +kernel
theorem d_Mo_pull_61 : decode cc_Mo_pull 61 = .ok (.iconst 1, 1) := by decide +kernel
theorem d_Mo_pull_62 : decode cc_Mo_pull 62 = .ok (.iadd, 1) := by decide +kernel
theorem d_Mo_pull_63 : decode cc_Mo_pull 63 = .ok (.iaload, 1) := by decide +kernel
theorem d_Mo_pull_64 : decode cc_Mo_pull 64 = .ok (.iastore, 1) := by decide +kernel
theorem d_Mo_pull_65 : decode cc_Mo_pull 65 = .ok (.iinc 4 1, 3) := by decide +kernel
theorem d_Mo_pull_68 : decode cc_Mo_pull 68 = .ok (.goto (-42), 3) := by decide +kernel
theorem d_Mo_pull_71 : decode cc_Mo_pull 71 = .ok (.iload_n 3, 1) := by decide +kernel
theorem d_Mo_pull_72 : decode cc_Mo_pull 72 = .ok (.ireturn, 1) := by decide +kernel
theorem d_Mo_put_0 : decode cc_Mo_put 0 = .ok (.aload_n 0, 1) := by decide +kernel
theorem d_Mo_put_1 : decode cc_Mo_put 1 = .ok (.getfield 71, 3) := by decide +kernel
theorem d_Mo_put_4 : decode cc_Mo_put 4 = .ok (.sipush 600, 3) := by decide +kernel
theorem d_Mo_put_7 : decode cc_Mo_put 7 = .ok (.iload_n 1, 1) := by decide +kernel
theorem d_Mo_put_8 : decode cc_Mo_put 8 = .ok (.imul, 1) := by decide +kernel
theorem d_Mo_put_9 : decode cc_Mo_put 9 = .ok (.aload_n 0, 1) := by decide +kernel
theorem d_Mo_put_10 : decode cc_Mo_put 10 = .ok (.getfield 74, 3) := by decide +kernel
theorem d_Mo_put_13 : decode cc_Mo_put 13 = .ok (.iload_n 1, 1) := by decide +kernel
theorem d_Mo_put_14 : decode cc_Mo_put 14 = .ok (.iaload, 1) := by decide +kernel
theorem d_Mo_put_15 : decode cc_Mo_put 15 = .ok (.iadd, 1) := by decide +kernel
theorem d_Mo_put_16 : decode cc_Mo_put 16 = .ok (.iload_n 2, 1) := by decide +kernel
theorem d_Mo_put_17 : decode cc_Mo_put 17 = .ok (.iastore, 1) := by decide +kernel
theorem d_Mo_put_18 : decode cc_Mo_put 18 = .ok (.aload_n 0, 1) := by decide +kernel
theorem d_Mo_put_19 : decode cc_Mo_put 19 = .ok (.getfield 74, 3) := by decide +kernel
theorem d_Mo_put_22 : decode cc_Mo_put 22 = .ok (.iload_n 1, 1) := by decide +kernel
theorem d_Mo_put_23 : decode cc_Mo_put 23 = .ok (.dup2, 1) := by decide +kernel
theorem d_Mo_put_24 : decode cc_Mo_put 24 = .ok (.iaload, 1) := by decide +kernel
theorem d_Mo_put_25 : decode cc_Mo_put 25 = .ok (.iconst 1, 1) := by decide +kernel
theorem d_Mo_put_26 : decode cc_Mo_put 26 = .ok (.iadd, 1) := by decide +kernel
theorem d_Mo_put_27 : decode cc_Mo_put 27 = .ok (.iastore, 1) := by decide +kernel
theorem d_Mo_put_28 : decode cc_Mo_put 28 = .ok (.return_, 1) := by decide +kernel
theorem d_Mo_raise_0 : decode cc_Mo_raise 0 = .ok (.aload_n 0, 1) := by decide +kernel
theorem d_Mo_raise_1 : decode cc_Mo_raise 1 = .ok (.iload_n 1, 1) := by decide +kernel
theorem d_Mo_raise_2 : decode cc_Mo_raise 2 = .ok (.putfield 96, 3) := by decide +kernel
theorem d_Mo_raise_5 : decode cc_Mo_raise 5 = .ok (.iconst 0, 1) := by decide +kernel
theorem d_Mo_raise_6 : decode cc_Mo_raise 6 = .ok (.ireturn, 1) := by decide +kernel
theorem d_Mo_reduced_0 : decode cc_Mo_reduced 0 = .ok (.aload_n 0, 1) := by decide +kernel
theorem d_Mo_reduced_1 : decode cc_Mo_reduced 1 = .ok (.getfield 47, 3) := by decide +kernel
theorem d_Mo_reduced_4 : decode cc_Mo_reduced 4 = .ok (.iload_n 1, 1) := by decide +kernel
theorem d_Mo_reduced_5 : decode cc_Mo_reduced 5 = .ok (.iaload, 1) := by decide +kernel
theorem d_Mo_reduced_6 : decode cc_Mo_reduced 6 = .ok (.istore_n 2, 1) := by decide +kernel
theorem d_Mo_reduced_7 : decode cc_Mo_reduced 7 = .ok (.bipush 24, 2) := by decide +kernel
theorem d_Mo_reduced_9 : decode cc_Mo_reduced 9 = .ok (.aload_n 0, 1) := by decide +kernel
theorem d_Mo_reduced_10 : decode cc_Mo_reduced 10 = .ok (.getfield 23, 3) := by decide +kernel
theorem d_Mo_reduced_13 : decode cc_Mo_reduced 13 = .ok (.iload_n 2, 1) := by decide +kernel
theorem d_Mo_reduced_14 : decode cc_Mo_reduced 14 = .ok (.iaload, 1) := by decide +kernel
theorem d_Mo_reduced_15 : decode cc_Mo_reduced 15 = .ok (.imul, 1) := by decide +kernel
theorem d_Mo_reduced_16 : decode cc_Mo_reduced 16 = .ok (.istore_n 3, 1) := by decide +kernel
theorem d_Mo_reduced_17 : decode cc_Mo_reduced 17 = .ok (.aload_n 0, 1) := by decide +kernel
theorem d_Mo_reduced_18 : decode cc_Mo_reduced 18 = .ok (.getfield 16, 3) := by decide +kernel
theorem d_Mo_reduced_21 : decode cc_Mo_reduced 21 = .ok (.iload_n 3, 1) := by decide +kernel
theorem d_Mo_reduced_22 : decode cc_Mo_reduced 22 = .ok (.aload_n 0, 1) := by decide +kernel
theorem d_Mo_reduced_23 : decode cc_Mo_reduced 23 = .ok (.getfield 50, 3) := by decide +kernel
theorem d_Mo_reduced_26 : decode cc_Mo_reduced 26 = .ok (.iload_n 1, 1) := by decide +kernel
theorem d_Mo_reduced_27 : decode cc_Mo_reduced 27 = .ok (.iaload, 1) := by decide +kernel
theorem d_Mo_reduced_28 : decode cc_Mo_reduced 28 = .ok (.iadd, 1) := by decide +kernel
theorem d_Mo_reduced_29 : decode cc_Mo_reduced 29 = .ok (.laload, 1) := by decide +kernel
theorem d_Mo_reduced_30 : decode cc_Mo_reduced 30 = .ok (.lstore 4, 2) := by decide +kernel
end
section
theorem d_Mo_reduced_32 : decode cc_Mo_reduced 32 = .ok (.aload_n 0, 1) := by decide +kernel
theorem d_Mo_reduced_33 : decode cc_Mo_reduced 33 = .ok (.getfield 50, 3) := by decide +kernel
theorem d_Mo_reduced_36 : decode cc_Mo_reduced 36 = .ok (.iload_n 1, 1) := by decide +kernel
theorem d_Mo_reduced_37 : decode cc_Mo_reduced 37 = .ok (.iaload, 1) := by decide +kernel
theorem d_Mo_reduced_38 : decode cc_Mo_reduced 38 = .ok (.iconst 1, 1) := by decide +kernel
theorem d_Mo_reduced_39 : decode cc_Mo_reduced 39 = .ok (.iadd, 1) := by decide +kernel
theorem d_Mo_reduced_40 : decode cc_Mo_reduced 40 = .ok (.istore 6, 2) := by decide +kernel
theorem d_Mo_reduced_42 : decode cc_Mo_reduced 42 = .ok (.iload 6, 2) := by decide +kernel
theorem d_Mo_reduced_44 : decode cc_Mo_reduced 44 = .ok (.aload_n 0, 1) := by decide +kernel
theorem d_Mo_reduced_45 : decode cc_Mo_reduced 45 = .ok (.getfield 53, 3) := by decide +kernel
theorem d_Mo_reduced_48 : decode cc_Mo_reduced 48 = .ok (.iload_n 1, 1) := by decide +kernel
theorem d_Mo_reduced_49 : decode cc_Mo_reduced 49 = .ok (.iaload, 1) := by decide +kernel
theorem d_Mo_reduced_50 : decode cc_Mo_reduced 50 = .ok (.if_icmp .ge 27, 3) := by decide +kernel
theorem d_Mo_reduced_53 : decode cc_Mo_reduced 53 = .ok (.aload_n 0, 1) := by decide +kernel
theorem d_Mo_reduced_54 : decode cc_Mo_reduced 54 = .ok (.iload_n 2, 1) := by decide +kernel
theorem d_Mo_reduced_55 : decode cc_Mo_reduced 55 = .ok (.lload 4, 2) := by decide +kernel
theorem d_Mo_reduced_57 : decode cc_Mo_reduced 57 = .ok (.aload_n 0, 1) := by decide +kernel
theorem d_Mo_reduced_58 : decode cc_Mo_reduced 58 = .ok (.getfield 16, 3) := by decide +kernel
theorem d_Mo_reduced_61 : decode cc_Mo_reduced 61 = .ok (.iload_n 3, 1) := by decide +kernel
theorem d_Mo_reduced_62 : decode cc_Mo_reduced 62 = .ok (.iload 6, 2) := by decide +kernel
theorem d_Mo_reduced_64 : decode cc_Mo_reduced 64 = .ok (.iadd, 1) := by decide +kernel
theorem d_Mo_reduced_65 : decode cc_Mo_reduced 65 = .ok (.laload, 1) := by decide +kernel
theorem d_Mo_reduced_66 : decode cc_Mo_reduced 66 = .ok (.invokevirtual 149, 3) := by decide +kernel
theorem d_Mo_reduced_69 : decode cc_Mo_reduced 69 = .ok (.lstore 4, 2) := by decide +kernel
theorem d_Mo_reduced_71 : decode cc_Mo_reduced 71 = .ok (.iinc 6 1, 3) := by decide +kernel
theorem d_Mo_reduced_74 : decode cc_Mo_reduced 74 = .ok (.goto (-32), 3) := by decide +kernel
theorem d_Mo_reduced_77 : decode cc_Mo_reduced 77 = .ok (.lload 4, 2) := by decide +kernel
theorem d_Mo_reduced_79 : decode cc_Mo_reduced 79 = .ok (.lreturn, 1) := by decide +kernel
theorem d_Mo_result_0 : decode cc_Mo_result 0 = .ok (.aload_n 0, 1) := by decide +kernel
theorem d_Mo_result_1 : decode cc_Mo_result 1 = .ok (.iconst 0, 1) := by decide +kernel
theorem d_Mo_result_2 : decode cc_Mo_result 2 = .ok (.putfield 96, 3) := by decide +kernel
theorem d_Mo_result_5 : decode cc_Mo_result 5 = .ok (.aload_n 0, 1) := by decide +kernel
theorem d_Mo_result_6 : decode cc_Mo_result 6 = .ok (.iload_n 1, 1) := by decide +kernel
theorem d_Mo_result_7 : decode cc_Mo_result 7 = .ok (.invokevirtual 196, 3) := by decide +kernel
theorem d_Mo_result_10 : decode cc_Mo_result 10 = .ok (.ifCond .eq 10, 3) := by decide +kernel
theorem d_Mo_result_13 : decode cc_Mo_result 13 = .ok (.aload_n 0, 1) := by decide +kernel
theorem d_Mo_result_14 : decode cc_Mo_result 14 = .ok (.iconst 1, 1) := by decide +kernel
theorem d_Mo_result_15 : decode cc_Mo_result 15 = .ok (.invokevirtual 110, 3) := by decide +kernel
theorem d_Mo_result_18 : decode cc_Mo_result 18 = .ok (.i2l, 1) := by decide +kernel
theorem d_Mo_result_19 : decode cc_Mo_result 19 = .ok (.lreturn, 1) := by decide +kernel
theorem d_Mo_result_20 : decode cc_Mo_result 20 = .ok (.aload_n 0, 1) := by decide +kernel
theorem d_Mo_result_21 : decode cc_Mo_result 21 = .ok (.getfield 20, 3) := by decide +kernel
theorem d_Mo_result_24 : decode cc_Mo_result 24 = .ok (.iload_n 1, 1) := by decide +kernel
theorem d_Mo_result_25 : decode cc_Mo_result 25 = .ok (.iaload, 1) := by decide +kernel
theorem d_Mo_result_26 : decode cc_Mo_result 26 = .ok (.iconst 1, 1) := by decide +kernel
theorem d_Mo_result_27 : decode cc_Mo_result 27 = .ok (.if_icmp .le 10, 3) := by decide +kernel
theorem d_Mo_result_30 : decode cc_Mo_result 30 = .ok (.aload_n 0, 1) := by decide +kernel
theorem d_Mo_result_31 : decode cc_Mo_result 31 = .ok (.iconst 2, 1) := by decide +kernel
theorem d_Mo_result_32 : decode cc_Mo_result 32 = .ok (.invokevirtual 110, 3) := by decide +kernel
theorem d_Mo_result_35 : decode cc_Mo_result 35 = .ok (.i2l, 1) := by decide +kernel
theorem d_Mo_result_36 : decode cc_Mo_result 36 = .ok (.lreturn, 1) := by decide +kernel
theorem d_Mo_result_37 : decode cc_Mo_result 37 = .ok (.aload_n 0, 1) := by decide +kernel
theorem d_Mo_result_38 : decode cc_Mo_result 38 = .ok (.getfield 32, 3) := by decide +kernel
theorem d_Mo_result_41 : decode cc_Mo_result 41 = .ok (.iload_n 1, 1) := by decide +kernel
theorem d_Mo_result_42 : decode cc_Mo_result 42 = .ok (.iaload, 1) := by decide +kernel
theorem d_Mo_result_43 : decode cc_Mo_result 43 = .ok (.iconst 1, 1) := by decide +kernel
theorem d_Mo_result_44 : decode cc_Mo_result 44 = .ok (.if_icmp .ne 17, 3) := by decide +kernel
theorem d_Mo_result_47 : decode cc_Mo_result 47 = .ok (.aload_n 0, 1) := by decide +kernel
theorem d_Mo_result_48 : decode cc_Mo_result 48 = .ok (.getfield 65, 3) := by decide +kernel
theorem d_Mo_result_51 : decode cc_Mo_result 51 = .ok (.aload_n 0, 1) := by decide +kernel
theorem d_Mo_result_52 : decode cc_Mo_result 52 = .ok (.getfield 41, 3) := by decide +kernel
theorem d_Mo_result_55 : decode cc_Mo_result 55 = .ok (.iload_n 1, 1) := by decide +kernel
theorem d_Mo_result_56 : decode cc_Mo_result 56 = .ok (.iaload, 1) := by decide +kernel
theorem d_Mo_result_57 : decode cc_Mo_result 57 = .ok (.laload, 1) := by decide +kernel
theorem d_Mo_result_58 : decode cc_Mo_result 58 = .ok (.goto 9, 3) := by decide +kernel
theorem d_Mo_result_61 : decode cc_Mo_result 61 = .ok (.aload_n 0, 1) := by decide +kernel
theorem d_Mo_result_62 : decode cc_Mo_result 62 = .ok (.iconst 3, 1) := by decide +kernel
theorem d_Mo_result_63 : decode cc_Mo_result 63 = .ok (.invokevirtual 110, 3) := by decide +kernel
theorem d_Mo_result_66 : decode cc_Mo_result 66 = .ok (.i2l, 1) := by decide +kernel
theorem d_Mo_result_67 : decode cc_Mo_result 67 = .ok (.lreturn, 1) := by decide +kernel
theorem d_Mo_set_0 : decode cc_Mo_set 0 = .ok (.aload_n 0, 1) := by decide +kernel
theorem d_Mo_set_1 : decode cc_Mo_set 1 = .ok (.iconst 0, 1) := by decide +kernel
theorem d_Mo_set_2 : decode cc_Mo_set 2 = .ok (.putfield 96, 3) := by decide +kernel
theorem d_Mo_set_5 : decode cc_Mo_set 5 = .ok (.aload_n 0, 1) := by decide +kernel
theorem d_Mo_set_6 : decode cc_Mo_set 6 = .ok (.iload_n 1, 1) := by decide +kernel
theorem d_Mo_set_7 : decode cc_Mo_set 7 = .ok (.iload_n 2, 1) := by decide +kernel
theorem d_Mo_set_8 : decode cc_Mo_set 8 = .ok (.invokevirtual 118, 3) := by decide +kernel
theorem d_Mo_set_11 : decode cc_Mo_set 11 = .ok (.ifCond .eq 10, 3) := by decide +kernel
theorem d_Mo_set_14 : decode cc_Mo_set 14 = .ok (.aload_n 0, 1) := by decide +kernel
theorem d_Mo_set_15 : decode cc_Mo_set 15 = .ok (.iconst 1, 1) := by decide +kernel
theorem d_Mo_set_16 : decode cc_Mo_set 16 = .ok (.invokevirtual 110, 3) := by decide +kernel
theorem d_Mo_set_19 : decode cc_Mo_set 19 = .ok (.i2l, 1) := by decide +kernel
theorem d_Mo_set_20 : decode cc_Mo_set 20 = .ok (.lreturn, 1) := by decide +kernel
theorem d_Mo_set_21 : decode cc_Mo_set 21 = .ok (.aload_n 0, 1) := by decide +kernel
theorem d_Mo_set_22 : decode cc_Mo_set 22 = .ok (.iload_n 1, 1) := by decide +kernel
theorem d_Mo_set_23 : decode cc_Mo_set 23 = .ok (.invokevirtual 114, 3) := by decide +kernel
theorem d_Mo_set_26 : decode cc_Mo_set 26 = .ok (.ifCond .eq 10, 3) := by decide +kernel
theorem d_Mo_set_29 : decode cc_Mo_set 29 = .ok (.aload_n 0, 1) := by decide +kernel
theorem d_Mo_set_30 : decode cc_Mo_set 30 = .ok (.iconst 2, 1) := by decide +kernel
theorem d_Mo_set_31 : decode cc_Mo_set 31 = .ok (.invokevirtual 110, 3) := by decide +kernel
theorem d_Mo_set_34 : decode cc_Mo_set 34 = .ok (.i2l, 1) := by decide +kernel
theorem d_Mo_set_35 : decode cc_Mo_set 35 = .ok (.lreturn, 1) := by decide +kernel
theorem d_Mo_set_36 : decode cc_Mo_set 36 = .ok (.aload_n 0, 1) := by decide +kernel
theorem d_Mo_set_37 : decode cc_Mo_set 37 = .ok (.getfield 16, 3) := by decide +kernel
theorem d_Mo_set_40 : decode cc_Mo_set 40 = .ok (.bipush 24, 2) := by decide +kernel
theorem d_Mo_set_42 : decode cc_Mo_set 42 = .ok (.iload_n 1, 1) := by decide +kernel
theorem d_Mo_set_43 : decode cc_Mo_set 43 = .ok (.imul, 1) := by decide +kernel
theorem d_Mo_set_44 : decode cc_Mo_set 44 = .ok (.iload_n 2, 1) := by decide +kernel
theorem d_Mo_set_45 : decode cc_Mo_set 45 = .ok (.iadd, 1) := by decide +kernel
theorem d_Mo_set_46 : decode cc_Mo_set 46 = .ok (.aload_n 0, 1) := by decide +kernel
theorem d_Mo_set_47 : decode cc_Mo_set 47 = .ok (.getfield 7, 3) := by decide +kernel
theorem d_Mo_set_50 : decode cc_Mo_set 50 = .ok (.iload_n 1, 1) := by decide +kernel
theorem d_Mo_set_51 : decode cc_Mo_set 51 = .ok (.iaload, 1) := by decide +kernel
theorem d_Mo_set_52 : decode cc_Mo_set 52 = .ok (.lload_n 3, 1) := by decide +kernel
theorem d_Mo_set_53 : decode cc_Mo_set 53 = .ok (.invokestatic 122, 3) := by decide +kernel
theorem d_Mo_set_56 : decode cc_Mo_set 56 = .ok (.lastore, 1) := by decide +kernel
theorem d_Mo_set_57 : decode cc_Mo_set 57 = .ok (.aload_n 0, 1) := by decide +kernel
theorem d_Mo_set_58 : decode cc_Mo_set 58 = .ok (.getfield 16, 3) := by decide +kernel
theorem d_Mo_set_61 : decode cc_Mo_set 61 = .ok (.bipush 24, 2) := by decide +kernel
theorem d_Mo_set_63 : decode cc_Mo_set 63 = .ok (.iload_n 1, 1) := by decide +kernel
theorem d_Mo_set_64 : decode cc_Mo_set 64 = .ok (.imul, 1) := by decide +kernel
theorem d_Mo_set_65 : decode cc_Mo_set 65 = .ok (.iload_n 2, 1) := by decide +kernel
theorem d_Mo_set_66 : decode cc_Mo_set 66 = .ok (.iadd, 1) := by decide +kernel
theorem d_Mo_set_67 : decode cc_Mo_set 67 = .ok (.laload, 1) := by decide +kernel
theorem d_Mo_set_68 : decode cc_Mo_set 68 = .ok (.lreturn, 1) := by decide +kernel
theorem d_Mo_shared_0 : decode cc_Mo_shared 0 = .ok (.aload_n 0, 1) := by decide +kernel
theorem d_Mo_shared_1 : decode cc_Mo_shared 1 = .ok (.getfield 7, 3) := by decide +kernel
theorem d_Mo_shared_4 : decode cc_Mo_shared 4 = .ok (.aload_n 0, 1) := by decide +kernel
theorem d_Mo_shared_5 : decode cc_Mo_shared 5 = .ok (.getfield 23, 3) := by decide +kernel
theorem d_Mo_shared_8 : decode cc_Mo_shared 8 = .ok (.iload_n 1, 1) := by decide +kernel
theorem d_Mo_shared_9 : decode cc_Mo_shared 9 = .ok (.iaload, 1) := by decide +kernel
theorem d_Mo_shared_10 : decode cc_Mo_shared 10 = .ok (.iaload, 1) := by decide +kernel
theorem d_Mo_shared_11 : decode cc_Mo_shared 11 = .ok (.istore 4, 2) := by decide +kernel
theorem d_Mo_shared_13 : decode cc_Mo_shared 13 = .ok (.iload 4, 2) := by decide +kernel
theorem d_Mo_shared_15 : decode cc_Mo_shared 15 = .ok (.iload 4, 2) := by decide +kernel
theorem d_Mo_shared_17 : decode cc_Mo_shared 17 = .ok (.iconst 4, 1) := by decide +kernel
theorem d_Mo_shared_18 : decode cc_Mo_shared 18 = .ok (.if_icmp .ge 15, 3) := by decide +kernel
theorem d_Mo_shared_21 : decode cc_Mo_shared 21 = .ok (.aload_n 0, 1) := by decide +kernel
theorem d_Mo_shared_22 : decode cc_Mo_shared 22 = .ok (.getfield 26, 3) := by decide +kernel
theorem d_Mo_shared_25 : decode cc_Mo_shared 25 = .ok (.iload_n 1, 1) := by decide +kernel
theorem d_Mo_shared_26 : decode cc_Mo_shared 26 = .ok (.iaload, 1) := by decide +kernel
theorem d_Mo_shared_27 : decode cc_Mo_shared 27 = .ok (.i2l, 1) := by decide +kernel
theorem d_Mo_shared_28 : decode cc_Mo_shared 28 = .ok (.lload_n 2, 1) := by decide +kernel
theorem d_Mo_shared_29 : decode cc_Mo_shared 29 = .ok (.ldiv, 1) := by decide +kernel
theorem d_Mo_shared_30 : decode cc_Mo_shared 30 = .ok (.goto 18, 3) := by decide +kernel
theorem d_Mo_shared_33 : decode cc_Mo_shared 33 = .ok (.ldc2_w 143, 3) := by decide +kernel
theorem d_Mo_shared_36 : decode cc_Mo_shared 36 = .ok (.aload_n 0, 1) := by decide +kernel
theorem d_Mo_shared_37 : decode cc_Mo_shared 37 = .ok (.getfield 26, 3) := by decide +kernel
theorem d_Mo_shared_40 : decode cc_Mo_shared 40 = .ok (.iload_n 1, 1) := by decide +kernel
theorem d_Mo_shared_41 : decode cc_Mo_shared 41 = .ok (.iaload, 1) := by decide +kernel
theorem d_Mo_shared_42 : decode cc_Mo_shared 42 = .ok (.i2l, 1) := by decide +kernel
theorem d_Mo_shared_43 : decode cc_Mo_shared 43 = .ok (.lmul, 1) := by decide +kernel
theorem d_Mo_shared_44 : decode cc_Mo_shared 44 = .ok (.lload_n 2, 1) := by decide +kernel
theorem d_Mo_shared_45 : decode cc_Mo_shared 45 = .ok (.invokestatic 145, 3) := by decide +kernel
theorem d_Mo_shared_48 : decode cc_Mo_shared 48 = .ok (.invokestatic 122, 3) := by decide +kernel
theorem d_Mo_shared_51 : decode cc_Mo_shared 51 = .ok (.lreturn, 1) := by decide +kernel
theorem d_Mo_spread_0 : decode cc_Mo_spread 0 = .ok (.aload_n 0, 1) := by decide +kernel
theorem d_Mo_spread_1 : decode cc_Mo_spread 1 = .ok (.getfield 47, 3) := by decide +kernel
theorem d_Mo_spread_4 : decode cc_Mo_spread 4 = .ok (.iload_n 1, 1) := by decide +kernel
theorem d_Mo_spread_5 : decode cc_Mo_spread 5 = .ok (.iaload, 1) := by decide +kernel
theorem d_Mo_spread_6 : decode cc_Mo_spread 6 = .ok (.istore_n 2, 1) := by decide +kernel
theorem d_Mo_spread_7 : decode cc_Mo_spread 7 = .ok (.bipush 24, 2) := by decide +kernel
theorem d_Mo_spread_9 : decode cc_Mo_spread 9 = .ok (.aload_n 0, 1) := by decide +kernel
theorem d_Mo_spread_10 : decode cc_Mo_spread 10 = .ok (.getfield 23, 3) := by decide +kernel
theorem d_Mo_spread_13 : decode cc_Mo_spread 13 = .ok (.iload_n 2, 1) := by decide +kernel
theorem d_Mo_spread_14 : decode cc_Mo_spread 14 = .ok (.iaload, 1) := by decide +kernel
theorem d_Mo_spread_15 : decode cc_Mo_spread 15 = .ok (.imul, 1) := by decide +kernel
theorem d_Mo_spread_16 : decode cc_Mo_spread 16 = .ok (.istore_n 3, 1) := by decide +kernel
theorem d_Mo_spread_17 : decode cc_Mo_spread 17 = .ok (.aload_n 0, 1) := by decide +kernel
theorem d_Mo_spread_18 : decode cc_Mo_spread 18 = .ok (.getfield 68, 3) := by decide +kernel
theorem d_Mo_spread_21 : decode cc_Mo_spread 21 = .ok (.iload_n 1, 1) := by decide +kernel
theorem d_Mo_spread_22 : decode cc_Mo_spread 22 = .ok (.laload, 1) := by decide +kernel
theorem d_Mo_spread_23 : decode cc_Mo_spread 23 = .ok (.lstore 4, 2) := by decide +kernel
theorem d_Mo_spread_25 : decode cc_Mo_spread 25 = .ok (.aload_n 0, 1) := by decide +kernel
theorem d_Mo_spread_26 : decode cc_Mo_spread 26 = .ok (.getfield 50, 3) := by decide +kernel
theorem d_Mo_spread_29 : decode cc_Mo_spread 29 = .ok (.iload_n 1, 1) := by decide +kernel
theorem d_Mo_spread_30 : decode cc_Mo_spread 30 = .ok (.iaload, 1) := by decide +kernel
theorem d_Mo_spread_31 : decode cc_Mo_spread 31 = .ok (.istore 6, 2) := by decide +kernel
theorem d_Mo_spread_33 : decode cc_Mo_spread 33 = .ok (.iload 6, 2) := by decide +kernel
theorem d_Mo_spread_35 : decode cc_Mo_spread 35 = .ok (.aload_n 0, 1) := by decide +kernel
theorem d_Mo_spread_36 : decode cc_Mo_spread 36 = .ok (.getfield 53, 3) := by decide +kernel
theorem d_Mo_spread_39 : decode cc_Mo_spread 39 = .ok (.iload_n 1, 1) := by decide +kernel
theorem d_Mo_spread_40 : decode cc_Mo_spread 40 = .ok (.iaload, 1) := by decide +kernel
theorem d_Mo_spread_41 : decode cc_Mo_spread 41 = .ok (.if_icmp .ge 38, 3) := by decide +kernel
theorem d_Mo_spread_44 : decode cc_Mo_spread 44 = .ok (.aload_n 0, 1) := by decide +kernel
theorem d_Mo_spread_45 : decode cc_Mo_spread 45 = .ok (.iload_n 2, 1) := by decide +kernel
theorem d_Mo_spread_46 : decode cc_Mo_spread 46 = .ok (.lload 4, 2) := by decide +kernel
theorem d_Mo_spread_48 : decode cc_Mo_spread 48 = .ok (.aload_n 0, 1) := by decide +kernel
theorem d_Mo_spread_49 : decode cc_Mo_spread 49 = .ok (.getfield 16, 3) := by decide +kernel
theorem d_Mo_spread_52 : decode cc_Mo_spread 52 = .ok (.iload_n 3, 1) := by decide +kernel
theorem d_Mo_spread_53 : decode cc_Mo_spread 53 = .ok (.iload 6, 2) := by decide +kernel
theorem d_Mo_spread_55 : decode cc_Mo_spread 55 = .ok (.iadd, 1) := by decide +kernel
theorem d_Mo_spread_56 : decode cc_Mo_spread 56 = .ok (.laload, 1) := by decide +kernel
theorem d_Mo_spread_57 : decode cc_Mo_spread 57 = .ok (.invokevirtual 149, 3) := by decide +kernel
theorem d_Mo_spread_60 : decode cc_Mo_spread 60 = .ok (.lstore 4, 2) := by decide +kernel
theorem d_Mo_spread_62 : decode cc_Mo_spread 62 = .ok (.aload_n 0, 1) := by decide +kernel
theorem d_Mo_spread_63 : decode cc_Mo_spread 63 = .ok (.getfield 16, 3) := by decide +kernel
theorem d_Mo_spread_66 : decode cc_Mo_spread 66 = .ok (.iload_n 3, 1) := by decide +kernel
theorem d_Mo_spread_67 : decode cc_Mo_spread 67 = .ok (.iload 6, 2) := by decide +kernel
theorem d_Mo_spread_69 : decode cc_Mo_spread 69 = .ok (.iadd, 1) := by decide +kernel
theorem d_Mo_spread_70 : decode cc_Mo_spread 70 = .ok (.lload 4, 2) := by decide +kernel
theorem d_Mo_spread_72 : decode cc_Mo_spread 72 = .ok (.lastore, 1) := by decide +kernel
theorem d_Mo_spread_73 : decode cc_Mo_spread 73 = .ok (.iinc 6 1, 3) := by decide +kernel
theorem d_Mo_spread_76 : decode cc_Mo_spread 76 = .ok (.goto (-43), 3) := by decide +kernel
theorem d_Mo_spread_79 : decode cc_Mo_spread 79 = .ok (.return_, 1) := by decide +kernel
theorem d_Mo_step_0 : decode cc_Mo_step 0 = .ok (.aload_n 0, 1) := by decide +kernel
theorem d_Mo_step_1 : decode cc_Mo_step 1 = .ok (.iconst 0, 1) := by decide +kernel
theorem d_Mo_step_2 : decode cc_Mo_step 2 = .ok (.putfield 96, 3) := by decide +kernel
theorem d_Mo_step_5 : decode cc_Mo_step 5 = .ok (.iload_n 1, 1) := by decide +kernel
theorem d_Mo_step_6 : decode cc_Mo_step 6 = .ok (.iconst 1, 1) := by decide +kernel
theorem d_Mo_step_7 : decode cc_Mo_step 7 = .ok (.bipush 60, 2) := by decide +kernel
theorem d_Mo_step_9 : decode cc_Mo_step 9 = .ok (.invokestatic 106, 3) := by decide +kernel
theorem d_Mo_step_12 : decode cc_Mo_step 12 = .ok (.ifCond .ne 9, 3) := by decide +kernel
theorem d_Mo_step_15 : decode cc_Mo_step 15 = .ok (.aload_n 0, 1) := by decide +kernel
theorem d_Mo_step_16 : decode cc_Mo_step 16 = .ok (.iconst 1, 1) := by decide +kernel
theorem d_Mo_step_17 : decode cc_Mo_step 17 = .ok (.invokevirtual 110, 3) := by decide +kernel
theorem d_Mo_step_20 : decode cc_Mo_step 20 = .ok (.ireturn, 1) := by decide +kernel
theorem d_Mo_step_21 : decode cc_Mo_step 21 = .ok (.iconst 0, 1) := by decide +kernel
theorem d_Mo_step_22 : decode cc_Mo_step 22 = .ok (.istore_n 2, 1) := by decide +kernel
theorem d_Mo_step_23 : decode cc_Mo_step 23 = .ok (.iconst 0, 1) := by decide +kernel
theorem d_Mo_step_24 : decode cc_Mo_step 24 = .ok (.istore_n 3, 1) := by decide +kernel
theorem d_Mo_step_25 : decode cc_Mo_step 25 = .ok (.iload_n 3, 1) := by decide +kernel
theorem d_Mo_step_26 : decode cc_Mo_step 26 = .ok (.iload_n 1, 1) := by decide +kernel
theorem d_Mo_step_27 : decode cc_Mo_step 27 = .ok (.if_icmp .ge 19, 3) := by decide +kernel
theorem d_Mo_step_30 : decode cc_Mo_step 30 = .ok (.aload_n 0, 1) := by decide +kernel
theorem d_Mo_step_31 : decode cc_Mo_step 31 = .ok (.invokevirtual 192, 3) := by decide +kernel
theorem d_Mo_step_34 : decode cc_Mo_step 34 = .ok (.ifCond .eq 6, 3) := by decide +kernel
theorem d_Mo_step_37 : decode cc_Mo_step 37 = .ok (.iinc 2 1, 3) := by decide +kernel
theorem d_Mo_step_40 : decode cc_Mo_step 40 = .ok (.iinc 3 1, 3) := by decide +kernel
theorem d_Mo_step_43 : decode cc_Mo_step 43 = .ok (.goto (-18), 3) := by decide +kernel
theorem d_Mo_step_46 : decode cc_Mo_step 46 = .ok (.iload_n 2, 1) := by decide +kernel
theorem d_Mo_step_47 : decode cc_Mo_step 47 = .ok (.ireturn, 1) := by decide +kernel
theorem d_Mo_task_0 : decode cc_Mo_task 0 = .ok (.aload_n 0, 1) := by decide +kernel
theorem d_Mo_task_1 : decode cc_Mo_task 1 = .ok (.iconst 0, 1) := by decide +kernel
theorem d_Mo_task_2 : decode cc_Mo_task 2 = .ok (.putfield 96, 3) := by decide +kernel
theorem d_Mo_task_5 : decode cc_Mo_task 5 = .ok (.iload_n 1, 1) := by decide +kernel
theorem d_Mo_task_6 : decode cc_Mo_task 6 = .ok (.iconst 0, 1) := by decide +kernel
theorem d_Mo_task_7 : decode cc_Mo_task 7 = .ok (.aload_n 0, 1) := by decide +kernel
theorem d_Mo_task_8 : decode cc_Mo_task 8 = .ok (.getfield 93, 3) := by decide +kernel
theorem d_Mo_task_11 : decode cc_Mo_task 11 = .ok (.iconst 1, 1) := by decide +kernel
theorem d_Mo_task_12 : decode cc_Mo_task 12 = .ok (.isub, 1) := by decide +kernel
theorem d_Mo_task_13 : decode cc_Mo_task 13 = .ok (.invokestatic 106, 3) := by decide +kernel
theorem d_Mo_task_16 : decode cc_Mo_task 16 = .ok (.ifCond .eq 17, 3) := by decide +kernel
theorem d_Mo_task_19 : decode cc_Mo_task 19 = .ok (.iload_n 2, 1) := by decide +kernel
theorem d_Mo_task_20 : decode cc_Mo_task 20 = .ok (.ifCond .lt 13, 3) := by decide +kernel
theorem d_Mo_task_23 : decode cc_Mo_task 23 = .ok (.iload_n 2, 1) := by decide +kernel
theorem d_Mo_task_24 : decode cc_Mo_task 24 = .ok (.aload_n 0, 1) := by decide +kernel
theorem d_Mo_task_25 : decode cc_Mo_task 25 = .ok (.getfield 74, 3) := by decide +kernel
theorem d_Mo_task_28 : decode cc_Mo_task 28 = .ok (.iload_n 1, 1) := by decide +kernel
theorem d_Mo_task_29 : decode cc_Mo_task 29 = .ok (.iaload, 1) := by decide +kernel
theorem d_Mo_task_30 : decode cc_Mo_task 30 = .ok (.if_icmp .lt 9, 3) := by decide +kernel
theorem d_Mo_task_33 : decode cc_Mo_task 33 = .ok (.aload_n 0, 1) := by decide +kernel
theorem d_Mo_task_34 : decode cc_Mo_task 34 = .ok (.iconst 1, 1) := by decide +kernel
theorem d_Mo_task_35 : decode cc_Mo_task 35 = .ok (.invokevirtual 110, 3) := by decide +kernel
theorem d_Mo_task_38 : decode cc_Mo_task 38 = .ok (.ireturn, 1) := by decide +kernel
theorem d_Mo_task_39 : decode cc_Mo_task 39 = .ok (.aload_n 0, 1) := by decide +kernel
theorem d_Mo_task_40 : decode cc_Mo_task 40 = .ok (.getfield 71, 3) := by decide +kernel
theorem d_Mo_task_43 : decode cc_Mo_task 43 = .ok (.sipush 600, 3) := by decide +kernel
theorem d_Mo_task_46 : decode cc_Mo_task 46 = .ok (.iload_n 1, 1) := by decide +kernel
theorem d_Mo_task_47 : decode cc_Mo_task 47 = .ok (.imul, 1) := by decide +kernel
theorem d_Mo_task_48 : decode cc_Mo_task 48 = .ok (.aload_n 0, 1) := by decide +kernel
theorem d_Mo_task_49 : decode cc_Mo_task 49 = .ok (.getfield 74, 3) := by decide +kernel
theorem d_Mo_task_52 : decode cc_Mo_task 52 = .ok (.iload_n 1, 1) := by decide +kernel
theorem d_Mo_task_53 : decode cc_Mo_task 53 = .ok (.iaload, 1) := by decide +kernel
theorem d_Mo_task_54 : decode cc_Mo_task 54 = .ok (.iadd, 1) := by decide +kernel
theorem d_Mo_task_55 : decode cc_Mo_task 55 = .ok (.iconst 1, 1) := by decide +kernel
theorem d_Mo_task_56 : decode cc_Mo_task 56 = .ok (.isub, 1) := by decide +kernel
theorem d_Mo_task_57 : decode cc_Mo_task 57 = .ok (.iload_n 2, 1) := by decide +kernel
theorem d_Mo_task_58 : decode cc_Mo_task 58 = .ok (.isub, 1) := by decide +kernel
theorem d_Mo_task_59 : decode cc_Mo_task 59 = .ok (.iaload, 1) := by decide +kernel
theorem d_Mo_task_60 : decode cc_Mo_task 60 = .ok (.istore 4, 2) := by decide +kernel
theorem d_Mo_task_62 : decode cc_Mo_task 62 = .ok (.iload_n 3, 1) := by decide +kernel
theorem d_Mo_task_63 : decode cc_Mo_task 63 = .ok (.tableswitch 49 0 2 #[25, 33, 41], 25) := by decide +kernel
theorem d_Mo_task_88 : decode cc_Mo_task 88 = .ok (.aload_n 0, 1) := by decide +kernel
theorem d_Mo_task_89 : decode cc_Mo_task 89 = .ok (.getfield 47, 3) := by decide +kernel
theorem d_Mo_task_92 : decode cc_Mo_task 92 = .ok (.iload 4, 2) := by decide +kernel
theorem d_Mo_task_94 : decode cc_Mo_task 94 = .ok (.iaload, 1) := by decide +kernel
theorem d_Mo_task_95 : decode cc_Mo_task 95 = .ok (.ireturn, 1) := by decide +kernel
theorem d_Mo_task_96 : decode cc_Mo_task 96 = .ok (.aload_n 0, 1) := by decide +kernel
theorem d_Mo_task_97 : decode cc_Mo_task 97 = .ok (.getfield 50, 3) := by decide +kernel
theorem d_Mo_task_100 : decode cc_Mo_task 100 = .ok (.iload 4, 2) := by decide +kernel
theorem d_Mo_task_102 : decode cc_Mo_task 102 = .ok (.iaload, 1) := by decide +kernel
theorem d_Mo_task_103 : decode cc_Mo_task 103 = .ok (.ireturn, 1) := by decide +kernel
theorem d_Mo_task_104 : decode cc_Mo_task 104 = .ok (.aload_n 0, 1) := by decide +kernel
theorem d_Mo_task_105 : decode cc_Mo_task 105 = .ok (.getfield 53, 3) := by decide +kernel
theorem d_Mo_task_108 : decode cc_Mo_task 108 = .ok (.iload 4, 2) := by decide +kernel
theorem d_Mo_task_110 : decode cc_Mo_task 110 = .ok (.iaload, 1) := by decide +kernel
theorem d_Mo_task_111 : decode cc_Mo_task 111 = .ok (.ireturn, 1) := by decide +kernel
theorem d_Mo_task_112 : decode cc_Mo_task 112 = .ok (.aload_n 0, 1) := by decide +kernel
theorem d_Mo_task_113 : decode cc_Mo_task 113 = .ok (.iconst 2, 1) := by decide +kernel
theorem d_Mo_task_114 : decode cc_Mo_task 114 = .ok (.invokevirtual 110, 3) := by decide +kernel
theorem d_Mo_task_117 : decode cc_Mo_task 117 = .ok (.ireturn, 1) := by decide +kernel
theorem d_Mo_thrown_0 : decode cc_Mo_thrown 0 = .ok (.aload_n 0, 1) := by decide +kernel
theorem d_Mo_thrown_1 : decode cc_Mo_thrown 1 = .ok (.getfield 96, 3) := by decide +kernel
theorem d_Mo_thrown_4 : decode cc_Mo_thrown 4 = .ok (.ireturn, 1) := by decide +kernel
theorem d_Mo_turns_0 : decode cc_Mo_turns 0 = .ok (.aload_n 0, 1) := by decide +kernel
theorem d_Mo_turns_1 : decode cc_Mo_turns 1 = .ok (.getfield 183, 3) := by decide +kernel
theorem d_Mo_turns_4 : decode cc_Mo_turns 4 = .ok (.istore_n 1, 1) := by decide +kernel
theorem d_Mo_turns_5 : decode cc_Mo_turns 5 = .ok (.aload_n 0, 1) := by decide +kernel
theorem d_Mo_turns_6 : decode cc_Mo_turns 6 = .ok (.aload_n 0, 1) := by decide +kernel
theorem d_Mo_turns_7 : decode cc_Mo_turns 7 = .ok (.getfield 183, 3) := by decide +kernel
theorem d_Mo_turns_10 : decode cc_Mo_turns 10 = .ok (.iconst 1, 1) := by decide +kernel
theorem d_Mo_turns_11 : decode cc_Mo_turns 11 = .ok (.iadd, 1) := by decide +kernel
theorem d_Mo_turns_12 : decode cc_Mo_turns 12 = .ok (.aload_n 0, 1) := by decide +kernel
theorem d_Mo_turns_13 : decode cc_Mo_turns 13 = .ok (.getfield 93, 3) := by decide +kernel
theorem d_Mo_turns_16 : decode cc_Mo_turns 16 = .ok (.irem, 1) := by decide +kernel
theorem d_Mo_turns_17 : decode cc_Mo_turns 17 = .ok (.putfield 183, 3) := by decide +kernel
theorem d_Mo_turns_20 : decode cc_Mo_turns 20 = .ok (.aload_n 0, 1) := by decide +kernel
theorem d_Mo_turns_21 : decode cc_Mo_turns 21 = .ok (.dup, 1) := by decide +kernel
theorem d_Mo_turns_22 : decode cc_Mo_turns 22 = .ok (.getfield 186, 3) := by decide +kernel
theorem d_Mo_turns_25 : decode cc_Mo_turns 25 = .ok (.iconst 1, 1) := by decide +kernel
theorem d_Mo_turns_26 : decode cc_Mo_turns 26 = .ok (.iadd, 1) := by decide +kernel
theorem d_Mo_turns_27 : decode cc_Mo_turns 27 = .ok (.putfield 186, 3) := by decide +kernel
theorem d_Mo_turns_30 : decode cc_Mo_turns 30 = .ok (.aload_n 0, 1) := by decide +kernel
theorem d_Mo_turns_31 : decode cc_Mo_turns 31 = .ok (.getfield 74, 3) := by decide +kernel
theorem d_Mo_turns_34 : decode cc_Mo_turns 34 = .ok (.iload_n 1, 1) := by decide +kernel
theorem d_Mo_turns_35 : decode cc_Mo_turns 35 = .ok (.iaload, 1) := by decide +kernel
theorem d_Mo_turns_36 : decode cc_Mo_turns 36 = .ok (.ifCond .le 23, 3) := by decide +kernel
theorem d_Mo_turns_39 : decode cc_Mo_turns 39 = .ok (.aload_n 0, 1) := by decide +kernel
theorem d_Mo_turns_40 : decode cc_Mo_turns 40 = .ok (.aload_n 0, 1) := by decide +kernel
theorem d_Mo_turns_41 : decode cc_Mo_turns 41 = .ok (.iload_n 1, 1) := by decide +kernel
theorem d_Mo_turns_42 : decode cc_Mo_turns 42 = .ok (.aload_n 0, 1) := by decide +kernel
theorem d_Mo_turns_43 : decode cc_Mo_turns 43 = .ok (.getfield 74, 3) := by decide +kernel
theorem d_Mo_turns_46 : decode cc_Mo_turns 46 = .ok (.iload_n 1, 1) := by decide +kernel
theorem d_Mo_turns_47 : decode cc_Mo_turns 47 = .ok (.iaload, 1) := by decide +kernel
theorem d_Mo_turns_48 : decode cc_Mo_turns 48 = .ok (.iconst 1, 1) := by decide +kernel
theorem d_Mo_turns_49 : decode cc_Mo_turns 49 = .ok (.isub, 1) := by decide +kernel
theorem d_Mo_turns_50 : decode cc_Mo_turns 50 = .ok (.invokevirtual 126, 3) := by decide +kernel
theorem d_Mo_turns_53 : decode cc_Mo_turns 53 = .ok (.iload_n 1, 1) := by decide +kernel
theorem d_Mo_turns_54 : decode cc_Mo_turns 54 = .ok (.invokevirtual 189, 3) := by decide +kernel
theorem d_Mo_turns_57 : decode cc_Mo_turns 57 = .ok (.iconst 1, 1) := by decide +kernel
theorem d_Mo_turns_58 : decode cc_Mo_turns 58 = .ok (.ireturn, 1) := by decide +kernel
theorem d_Mo_turns_59 : decode cc_Mo_turns 59 = .ok (.iconst 1, 1) := by decide +kernel
theorem d_Mo_turns_60 : decode cc_Mo_turns 60 = .ok (.istore_n 2, 1) := by decide +kernel
theorem d_Mo_turns_61 : decode cc_Mo_turns 61 = .ok (.iload_n 2, 1) := by decide +kernel
theorem d_Mo_turns_62 : decode cc_Mo_turns 62 = .ok (.aload_n 0, 1) := by decide +kernel
theorem d_Mo_turns_63 : decode cc_Mo_turns 63 = .ok (.getfield 93, 3) := by decide +kernel
theorem d_Mo_turns_66 : decode cc_Mo_turns 66 = .ok (.if_icmp .gt 65, 3) := by decide +kernel
theorem d_Mo_turns_69 : decode cc_Mo_turns 69 = .ok (.aload_n 0, 1) := by decide +kernel
theorem d_Mo_turns_70 : decode cc_Mo_turns 70 = .ok (.getfield 86, 3) := by decide +kernel
theorem d_Mo_turns_73 : decode cc_Mo_turns 73 = .ok (.iload_n 1, 1) := by decide +kernel
theorem d_Mo_turns_74 : decode cc_Mo_turns 74 = .ok (.iaload, 1) := by decide +kernel
theorem d_Mo_turns_75 : decode cc_Mo_turns 75 = .ok (.iload_n 2, 1) := by decide +kernel
theorem d_Mo_turns_76 : decode cc_Mo_turns 76 = .ok (.iadd, 1) := by decide +kernel
theorem d_Mo_turns_77 : decode cc_Mo_turns 77 = .ok (.aload_n 0, 1) := by decide +kernel
theorem d_Mo_turns_78 : decode cc_Mo_turns 78 = .ok (.getfield 93, 3) := by decide +kernel
theorem d_Mo_turns_81 : decode cc_Mo_turns 81 = .ok (.irem, 1) := by decide +kernel
theorem d_Mo_turns_82 : decode cc_Mo_turns 82 = .ok (.istore_n 3, 1) := by decide +kernel
theorem d_Mo_turns_83 : decode cc_Mo_turns 83 = .ok (.aload_n 0, 1) := by decide +kernel
theorem d_Mo_turns_84 : decode cc_Mo_turns 84 = .ok (.getfield 74, 3) := by decide +kernel
theorem d_Mo_turns_87 : decode cc_Mo_turns 87 = .ok (.iload_n 3, 1) := by decide +kernel
theorem d_Mo_turns_88 : decode cc_Mo_turns 88 = .ok (.iaload, 1) := by decide +kernel
theorem d_Mo_turns_89 : decode cc_Mo_turns 89 = .ok (.ifCond .ne 6, 3) := by decide +kernel
theorem d_Mo_turns_92 : decode cc_Mo_turns 92 = .ok (.goto 33, 3) := by decide +kernel
theorem d_Mo_turns_95 : decode cc_Mo_turns 95 = .ok (.aload_n 0, 1) := by decide +kernel
theorem d_Mo_turns_96 : decode cc_Mo_turns 96 = .ok (.getfield 86, 3) := by decide +kernel
theorem d_Mo_turns_99 : decode cc_Mo_turns 99 = .ok (.iload_n 1, 1) := by decide +kernel
theorem d_Mo_turns_100 : decode cc_Mo_turns 100 = .ok (.iload_n 3, 1) := by decide +kernel
theorem d_Mo_turns_101 : decode cc_Mo_turns 101 = .ok (.iastore, 1) := by decide +kernel
theorem d_Mo_turns_102 : decode cc_Mo_turns 102 = .ok (.aload_n 0, 1) := by decide +kernel
theorem d_Mo_turns_103 : decode cc_Mo_turns 103 = .ok (.getfield 80, 3) := by decide +kernel
theorem d_Mo_turns_106 : decode cc_Mo_turns 106 = .ok (.iload_n 1, 1) := by decide +kernel
theorem d_Mo_turns_107 : decode cc_Mo_turns 107 = .ok (.dup2, 1) := by decide +kernel
theorem d_Mo_turns_108 : decode cc_Mo_turns 108 = .ok (.iaload, 1) := by decide +kernel
theorem d_Mo_turns_109 : decode cc_Mo_turns 109 = .ok (.iconst 1, 1) := by decide +kernel
theorem d_Mo_turns_110 : decode cc_Mo_turns 110 = .ok (.iadd, 1) := by decide +kernel
theorem d_Mo_turns_111 : decode cc_Mo_turns 111 = .ok (.iastore, 1) := by decide +kernel
theorem d_Mo_turns_112 : decode cc_Mo_turns 112 = .ok (.aload_n 0, 1) := by decide +kernel
theorem d_Mo_turns_113 : decode cc_Mo_turns 113 = .ok (.aload_n 0, 1) := by decide +kernel
theorem d_Mo_turns_114 : decode cc_Mo_turns 114 = .ok (.iload_n 3, 1) := by decide +kernel
theorem d_Mo_turns_115 : decode cc_Mo_turns 115 = .ok (.iconst 0, 1) := by decide +kernel
theorem d_Mo_turns_116 : decode cc_Mo_turns 116 = .ok (.invokevirtual 126, 3) := by decide +kernel
theorem d_Mo_turns_119 : decode cc_Mo_turns 119 = .ok (.iload_n 1, 1) := by decide +kernel
theorem d_Mo_turns_120 : decode cc_Mo_turns 120 = .ok (.invokevirtual 189, 3) := by decide +kernel
theorem d_Mo_turns_123 : decode cc_Mo_turns 123 = .ok (.iconst 1, 1) := by decide +kernel
theorem d_Mo_turns_124 : decode cc_Mo_turns 124 = .ok (.ireturn, 1) := by decide +kernel
theorem d_Mo_turns_125 : decode cc_Mo_turns 125 = .ok (.iinc 2 1, 3) := by decide +kernel
theorem d_Mo_turns_128 : decode cc_Mo_turns 128 = .ok (.goto (-67), 3) := by decide +kernel
theorem d_Mo_turns_131 : decode cc_Mo_turns 131 = .ok (.aload_n 0, 1) := by decide +kernel
theorem d_Mo_turns_132 : decode cc_Mo_turns 132 = .ok (.getfield 83, 3) := by decide +kernel
theorem d_Mo_turns_135 : decode cc_Mo_turns 135 = .ok (.iload_n 1, 1) := by decide +kernel
theorem d_Mo_turns_136 : decode cc_Mo_turns 136 = .ok (.dup2, 1) := by decide +kernel
theorem d_Mo_turns_137 : decode cc_Mo_turns 137 = .ok (.iaload, 1) := by decide +kernel
theorem d_Mo_turns_138 : decode cc_Mo_turns 138 = .ok (.iconst 1, 1) := by decide +kernel
theorem d_Mo_turns_139 : decode cc_Mo_turns 139 = .ok (.iadd, 1) := by decide +kernel
theorem d_Mo_turns_140 : decode cc_Mo_turns 140 = .ok (.iastore, 1) := by decide +kernel
theorem d_Mo_turns_141 : decode cc_Mo_turns 141 = .ok (.iconst 0, 1) := by decide +kernel
theorem d_Mo_turns_142 : decode cc_Mo_turns 142 = .ok (.ireturn, 1) := by decide +kernel
theorem d_Mo_worker_0 : decode cc_Mo_worker 0 = .ok (.aload_n 0, 1) := by decide +kernel
theorem d_Mo_worker_1 : decode cc_Mo_worker 1 = .ok (.iconst 0, 1) := by decide +kernel
theorem d_Mo_worker_2 : decode cc_Mo_worker 2 = .ok (.putfield 96, 3) := by decide +kernel
theorem d_Mo_worker_5 : decode cc_Mo_worker 5 = .ok (.iload_n 1, 1) := by decide +kernel
theorem d_Mo_worker_6 : decode cc_Mo_worker 6 = .ok (.iconst 0, 1) := by decide +kernel
theorem d_Mo_worker_7 : decode cc_Mo_worker 7 = .ok (.aload_n 0, 1) := by decide +kernel
theorem d_Mo_worker_8 : decode cc_Mo_worker 8 = .ok (.getfield 93, 3) := by decide +kernel
theorem d_Mo_worker_11 : decode cc_Mo_worker 11 = .ok (.iconst 1, 1) := by decide +kernel
theorem d_Mo_worker_12 : decode cc_Mo_worker 12 = .ok (.isub, 1) := by decide +kernel
theorem d_Mo_worker_13 : decode cc_Mo_worker 13 = .ok (.invokestatic 106, 3) := by decide +kernel
theorem d_Mo_worker_16 : decode cc_Mo_worker 16 = .ok (.ifCond .ne 9, 3) := by decide +kernel
theorem d_Mo_worker_19 : decode cc_Mo_worker 19 = .ok (.aload_n 0, 1) := by decide +kernel
theorem d_Mo_worker_20 : decode cc_Mo_worker 20 = .ok (.iconst 1, 1) := by decide +kernel
theorem d_Mo_worker_21 : decode cc_Mo_worker 21 = .ok (.invokevirtual 110, 3) := by decide +kernel
theorem d_Mo_worker_24 : decode cc_Mo_worker 24 = .ok (.ireturn, 1) := by decide +kernel
theorem d_Mo_worker_25 : decode cc_Mo_worker 25 = .ok (.iload_n 2, 1) := by decide +kernel
theorem d_Mo_worker_26 : decode cc_Mo_worker 26 = .ok (.tableswitch 69 0 4 #[34, 41, 48, 55, 62], 34) := by decide +kernel
theorem d_Mo_worker_60 : decode cc_Mo_worker 60 = .ok (.aload_n 0, 1) := by decide +kernel
theorem d_Mo_worker_61 : decode cc_Mo_worker 61 = .ok (.getfield 74, 3) := by decide +kernel
theorem d_Mo_worker_64 : decode cc_Mo_worker 64 = .ok (.iload_n 1, 1) := by decide +kernel
theorem d_Mo_worker_65 : decode cc_Mo_worker 65 = .ok (.iaload, 1) := by decide +kernel
theorem d_Mo_worker_66 : decode cc_Mo_worker 66 = .ok (.ireturn, 1) := by decide +kernel
theorem d_Mo_worker_67 : decode cc_Mo_worker 67 = .ok (.aload_n 0, 1) := by decide +kernel
theorem d_Mo_worker_68 : decode cc_Mo_worker 68 = .ok (.getfield 77, 3) := by decide +kernel
theorem d_Mo_worker_71 : decode cc_Mo_worker 71 = .ok (.iload_n 1, 1) := by decide +kernel
theorem d_Mo_worker_72 : decode cc_Mo_worker 72 = .ok (.iaload, 1) := by decide +kernel
theorem d_Mo_worker_73 : decode cc_Mo_worker 73 = .ok (.ireturn, 1) := by decide +kernel
theorem d_Mo_worker_74 : decode cc_Mo_worker 74 = .ok (.aload_n 0, 1) := by decide +kernel
theorem d_Mo_worker_75 : decode cc_Mo_worker 75 = .ok (.getfield 80, 3) := by decide +kernel
theorem d_Mo_worker_78 : decode cc_Mo_worker 78 = .ok (.iload_n 1, 1) := by decide +kernel
theorem d_Mo_worker_79 : decode cc_Mo_worker 79 = .ok (.iaload, 1) := by decide +kernel
theorem d_Mo_worker_80 : decode cc_Mo_worker 80 = .ok (.ireturn, 1) := by decide +kernel
theorem d_Mo_worker_81 : decode cc_Mo_worker 81 = .ok (.aload_n 0, 1) := by decide +kernel
theorem d_Mo_worker_82 : decode cc_Mo_worker 82 = .ok (.getfield 83, 3) := by decide +kernel
theorem d_Mo_worker_85 : decode cc_Mo_worker 85 = .ok (.iload_n 1, 1) := by decide +kernel
theorem d_Mo_worker_86 : decode cc_Mo_worker 86 = .ok (.iaload, 1) := by decide +kernel
theorem d_Mo_worker_87 : decode cc_Mo_worker 87 = .ok (.ireturn, 1) := by decide +kernel
theorem d_Mo_worker_88 : decode cc_Mo_worker 88 = .ok (.aload_n 0, 1) := by decide +kernel
theorem d_Mo_worker_89 : decode cc_Mo_worker 89 = .ok (.getfield 86, 3) := by decide +kernel
theorem d_Mo_worker_92 : decode cc_Mo_worker 92 = .ok (.iload_n 1, 1) := by decide +kernel
theorem d_Mo_worker_93 : decode cc_Mo_worker 93 = .ok (.iaload, 1) := by decide +kernel
theorem d_Mo_worker_94 : decode cc_Mo_worker 94 = .ok (.ireturn, 1) := by decide +kernel
theorem d_Mo_worker_95 : decode cc_Mo_worker 95 = .ok (.aload_n 0, 1) := by decide +kernel
theorem d_Mo_worker_96 : decode cc_Mo_worker 96 = .ok (.iconst 2, 1) := by decide +kernel
theorem d_Mo_worker_97 : decode cc_Mo_worker 97 = .ok (.invokevirtual 110, 3) := by decide +kernel
theorem d_Mo_worker_100 : decode cc_Mo_worker 100 = .ok (.ireturn, 1) := by decide +kernel
end
section
theorem d_AL_add1_0 : decode cc_AL_add1 0 = .ok (.aload_n 0, 1) := by decide +kernel
theorem d_AL_add1_1 : decode cc_AL_add1 1 = .ok (.dup, 1) := by decide +kernel
theorem d_AL_add1_2 : decode cc_AL_add1 2 = .ok (.getfield 63, 3) := by decide +kernel
theorem d_AL_add1_5 : decode cc_AL_add1 5 = .ok (.iconst 1, 1) := by decide +kernel
theorem d_AL_add1_6 : decode cc_AL_add1 6 = .ok (.iadd, 1) := by decide +kernel
theorem d_AL_add1_7 : decode cc_AL_add1 7 = .ok (.putfield 63, 3) := by decide +kernel
theorem d_AL_add1_10 : decode cc_AL_add1 10 = .ok (.aload_n 0, 1) := by decide +kernel
theorem d_AL_add1_11 : decode cc_AL_add1 11 = .ok (.aload_n 1, 1) := by decide +kernel
theorem d_AL_add1_12 : decode cc_AL_add1 12 = .ok (.aload_n 0, 1) := by decide +kernel
theorem d_AL_add1_13 : decode cc_AL_add1 13 = .ok (.getfield 9, 3) := by decide +kernel
theorem d_AL_add1_16 : decode cc_AL_add1 16 = .ok (.aload_n 0, 1) := by decide +kernel
theorem d_AL_add1_17 : decode cc_AL_add1 17 = .ok (.getfield 48, 3) := by decide +kernel
theorem d_AL_add1_20 : decode cc_AL_add1 20 = .ok (.invokevirtual 131, 3) := by decide +kernel
theorem d_AL_add1_23 : decode cc_AL_add1 23 = .ok (.iconst 1, 1) := by decide +kernel
theorem d_AL_add1_24 : decode cc_AL_add1 24 = .ok (.ireturn, 1) := by decide +kernel
theorem d_AL_add3_0 : decode cc_AL_add3 0 = .ok (.iload_n 3, 1) := by decide +kernel
theorem d_AL_add3_1 : decode cc_AL_add3 1 = .ok (.aload_n 2, 1) := by decide +kernel
theorem d_AL_add3_2 : decode cc_AL_add3 2 = .ok (.arraylength, 1) := by decide +kernel
theorem d_AL_add3_3 : decode cc_AL_add3 3 = .ok (.if_icmp .ne 8, 3) := by decide +kernel
theorem d_AL_add3_6 : decode cc_AL_add3 6 = .ok (.aload_n 0, 1) := by decide +kernel
theorem d_AL_add3_7 : decode cc_AL_add3 7 = .ok (.invokevirtual 129, 3) := by decide +kernel
theorem d_AL_add3_10 : decode cc_AL_add3 10 = .ok (.astore_n 2, 1) := by decide +kernel
theorem d_AL_add3_11 : decode cc_AL_add3 11 = .ok (.aload_n 2, 1) := by decide +kernel
theorem d_AL_add3_12 : decode cc_AL_add3 12 = .ok (.iload_n 3, 1) := by decide +kernel
theorem d_AL_add3_13 : decode cc_AL_add3 13 = .ok (.aload_n 1, 1) := by decide +kernel
theorem d_AL_add3_14 : decode cc_AL_add3 14 = .ok (.aastore, 1) := by decide +kernel
theorem d_AL_add3_15 : decode cc_AL_add3 15 = .ok (.aload_n 0, 1) := by decide +kernel
theorem d_AL_add3_16 : decode cc_AL_add3 16 = .ok (.iload_n 3, 1) := by decide +kernel
theorem d_AL_add3_17 : decode cc_AL_add3 17 = .ok (.iconst 1, 1) := by decide +kernel
theorem d_AL_add3_18 : decode cc_AL_add3 18 = .ok (.iadd, 1) := by decide +kernel
theorem d_AL_add3_19 : decode cc_AL_add3 19 = .ok (.putfield 48, 3) := by decide +kernel
theorem d_AL_add3_22 : decode cc_AL_add3 22 = .ok (.return_, 1) := by decide +kernel
theorem d_AL_elementData_0 : decode cc_AL_elementData 0 = .ok (.aload_n 0, 1) := by decide +kernel
theorem d_AL_elementData_1 : decode cc_AL_elementData 1 = .ok (.getfield 9, 3) := by decide +kernel
theorem d_AL_elementData_4 : decode cc_AL_elementData 4 = .ok (.iload_n 1, 1) := by decide +kernel
theorem d_AL_elementData_5 : decode cc_AL_elementData 5 = .ok (.aaload, 1) := by decide +kernel
theorem d_AL_elementData_6 : decode cc_AL_elementData 6 = .ok (.areturn, 1) := by decide +kernel
theorem d_AL_fastRemove_0 : decode cc_AL_fastRemove 0 = .ok (.aload_n 0, 1) := by decide +kernel
theorem d_AL_fastRemove_1 : decode cc_AL_fastRemove 1 = .ok (.dup, 1) := by decide +kernel
theorem d_AL_fastRemove_2 : decode cc_AL_fastRemove 2 = .ok (.getfield 63, 3) := by decide +kernel
theorem d_AL_fastRemove_5 : decode cc_AL_fastRemove 5 = .ok (.iconst 1, 1) := by decide +kernel
theorem d_AL_fastRemove_6 : decode cc_AL_fastRemove 6 = .ok (.iadd, 1) := by decide +kernel
theorem d_AL_fastRemove_7 : decode cc_AL_fastRemove 7 = .ok (.putfield 63, 3) := by decide +kernel
theorem d_AL_fastRemove_10 : decode cc_AL_fastRemove 10 = .ok (.aload_n 0, 1) := by decide +kernel
theorem d_AL_fastRemove_11 : decode cc_AL_fastRemove 11 = .ok (.getfield 48, 3) := by decide +kernel
theorem d_AL_fastRemove_14 : decode cc_AL_fastRemove 14 = .ok (.iconst 1, 1) := by decide +kernel
theorem d_AL_fastRemove_15 : decode cc_AL_fastRemove 15 = .ok (.isub, 1) := by decide +kernel
theorem d_AL_fastRemove_16 : decode cc_AL_fastRemove 16 = .ok (.dup, 1) := by decide +kernel
theorem d_AL_fastRemove_17 : decode cc_AL_fastRemove 17 = .ok (.istore_n 3, 1) := by decide +kernel
theorem d_AL_fastRemove_18 : decode cc_AL_fastRemove 18 = .ok (.iload_n 2, 1) := by decide +kernel
theorem d_AL_fastRemove_19 : decode cc_AL_fastRemove 19 = .ok (.if_icmp .le 15, 3) := by decide +kernel
theorem d_AL_fastRemove_22 : decode cc_AL_fastRemove 22 = .ok (.aload_n 1, 1) := by decide +kernel
theorem d_AL_fastRemove_23 : decode cc_AL_fastRemove 23 = .ok (.iload_n 2, 1) := by decide +kernel
theorem d_AL_fastRemove_24 : decode cc_AL_fastRemove 24 = .ok (.iconst 1, 1) := by decide +kernel
theorem d_AL_fastRemove_25 : decode cc_AL_fastRemove 25 = .ok (.iadd, 1) := by decide +kernel
theorem d_AL_fastRemove_26 : decode cc_AL_fastRemove 26 = .ok (.aload_n 1, 1) := by decide +kernel
theorem d_AL_fastRemove_27 : decode cc_AL_fastRemove 27 = .ok (.iload_n 2, 1) := by decide +kernel
theorem d_AL_fastRemove_28 : decode cc_AL_fastRemove 28 = .ok (.iload_n 3, 1) := by decide +kernel
theorem d_AL_fastRemove_29 : decode cc_AL_fastRemove 29 = .ok (.iload_n 2, 1) := by decide +kernel
theorem d_AL_fastRemove_30 : decode cc_AL_fastRemove 30 = .ok (.isub, 1) := by decide +kernel
theorem d_AL_fastRemove_31 : decode cc_AL_fastRemove 31 = .ok (.invokestatic 112, 3) := by decide +kernel
theorem d_AL_fastRemove_34 : decode cc_AL_fastRemove 34 = .ok (.aload_n 1, 1) := by decide +kernel
theorem d_AL_fastRemove_35 : decode cc_AL_fastRemove 35 = .ok (.aload_n 0, 1) := by decide +kernel
theorem d_AL_fastRemove_36 : decode cc_AL_fastRemove 36 = .ok (.iload_n 3, 1) := by decide +kernel
theorem d_AL_fastRemove_37 : decode cc_AL_fastRemove 37 = .ok (.dup_x1, 1) := by decide +kernel
theorem d_AL_fastRemove_38 : decode cc_AL_fastRemove 38 = .ok (.putfield 48, 3) := by decide +kernel
theorem d_AL_fastRemove_41 : decode cc_AL_fastRemove 41 = .ok (.aconst_null, 1) := by decide +kernel
theorem d_AL_fastRemove_42 : decode cc_AL_fastRemove 42 = .ok (.aastore, 1) := by decide +kernel
theorem d_AL_fastRemove_43 : decode cc_AL_fastRemove 43 = .ok (.return_, 1) := by decide +kernel
theorem d_AL_get_0 : decode cc_AL_get 0 = .ok (.iload_n 1, 1) := by decide +kernel
theorem d_AL_get_1 : decode cc_AL_get 1 = .ok (.aload_n 0, 1) := by decide +kernel
theorem d_AL_get_2 : decode cc_AL_get 2 = .ok (.getfield 48, 3) := by decide +kernel
theorem d_AL_get_5 : decode cc_AL_get 5 = .ok (.invokestatic 118, 3) := by decide +kernel
theorem d_AL_get_8 : decode cc_AL_get 8 = .ok (.pop, 1) := by decide +kernel
theorem d_AL_get_9 : decode cc_AL_get 9 = .ok (.aload_n 0, 1) := by decide +kernel
theorem d_AL_get_10 : decode cc_AL_get 10 = .ok (.iload_n 1, 1) := by decide +kernel
theorem d_AL_get_11 : decode cc_AL_get 11 = .ok (.invokevirtual 123, 3) := by decide +kernel
theorem d_AL_get_14 : decode cc_AL_get 14 = .ok (.areturn, 1) := by decide +kernel
theorem d_AL_grow0_0 : decode cc_AL_grow0 0 = .ok (.aload_n 0, 1) := by decide +kernel
theorem d_AL_grow0_1 : decode cc_AL_grow0 1 = .ok (.aload_n 0, 1) := by decide +kernel
theorem d_AL_grow0_2 : decode cc_AL_grow0 2 = .ok (.getfield 48, 3) := by decide +kernel
theorem d_AL_grow0_5 : decode cc_AL_grow0 5 = .ok (.iconst 1, 1) := by decide +kernel
theorem d_AL_grow0_6 : decode cc_AL_grow0 6 = .ok (.iadd, 1) := by decide +kernel
theorem d_AL_grow0_7 : decode cc_AL_grow0 7 = .ok (.invokevirtual 69, 3) := by decide +kernel
theorem d_AL_grow0_10 : decode cc_AL_grow0 10 = .ok (.areturn, 1) := by decide +kernel
theorem d_AL_grow1_0 : decode cc_AL_grow1 0 = .ok (.aload_n 0, 1) := by decide +kernel
theorem d_AL_grow1_1 : decode cc_AL_grow1 1 = .ok (.getfield 9, 3) := by decide +kernel
theorem d_AL_grow1_4 : decode cc_AL_grow1 4 = .ok (.arraylength, 1) := by decide +kernel
theorem d_AL_grow1_5 : decode cc_AL_grow1 5 = .ok (.istore_n 2, 1) := by decide +kernel
theorem d_AL_grow1_6 : decode cc_AL_grow1 6 = .ok (.iload_n 2, 1) := by decide +kernel
theorem d_AL_grow1_7 : decode cc_AL_grow1 7 = .ok (.ifCond .gt 13, 3) := by decide +kernel
theorem d_AL_grow1_10 : decode cc_AL_grow1 10 = .ok (.aload_n 0, 1) := by decide +kernel
theorem d_AL_grow1_11 : decode cc_AL_grow1 11 = .ok (.getfield 9, 3) := by decide +kernel
theorem d_AL_grow1_14 : decode cc_AL_grow1 14 = .ok (.getstatic 39, 3) := by decide +kernel
theorem d_AL_grow1_17 : decode cc_AL_grow1 17 = .ok (.if_acmp .eq 28, 3) := by decide +kernel
theorem d_AL_grow1_20 : decode cc_AL_grow1 20 = .ok (.iload_n 2, 1) := by decide +kernel
theorem d_AL_grow1_21 : decode cc_AL_grow1 21 = .ok (.iload_n 1, 1) := by decide +kernel
theorem d_AL_grow1_22 : decode cc_AL_grow1 22 = .ok (.iload_n 2, 1) := by decide +kernel
theorem d_AL_grow1_23 : decode cc_AL_grow1 23 = .ok (.isub, 1) := by decide +kernel
theorem d_AL_grow1_24 : decode cc_AL_grow1 24 = .ok (.iload_n 2, 1) := by decide +kernel
theorem d_AL_grow1_25 : decode cc_AL_grow1 25 = .ok (.iconst 1, 1) := by decide +kernel
theorem d_AL_grow1_26 : decode cc_AL_grow1 26 = .ok (.ishr, 1) := by decide +kernel
theorem d_AL_grow1_27 : decode cc_AL_grow1 27 = .ok (.invokestatic 73, 3) := by decide +kernel
theorem d_AL_grow1_30 : decode cc_AL_grow1 30 = .ok (.istore_n 3, 1) := by decide +kernel
theorem d_AL_grow1_31 : decode cc_AL_grow1 31 = .ok (.aload_n 0, 1) := by decide +kernel
theorem d_AL_grow1_32 : decode cc_AL_grow1 32 = .ok (.aload_n 0, 1) := by decide +kernel
theorem d_AL_grow1_33 : decode cc_AL_grow1 33 = .ok (.getfield 9, 3) := by decide +kernel
theorem d_AL_grow1_36 : decode cc_AL_grow1 36 = .ok (.iload_n 3, 1) := by decide +kernel
theorem d_AL_grow1_37 : decode cc_AL_grow1 37 = .ok (.invokestatic 66, 3) := by decide +kernel
theorem d_AL_grow1_40 : decode cc_AL_grow1 40 = .ok (.dup_x1, 1) := by decide +kernel
theorem d_AL_grow1_41 : decode cc_AL_grow1 41 = .ok (.putfield 9, 3) := by decide +kernel
theorem d_AL_grow1_44 : decode cc_AL_grow1 44 = .ok (.areturn, 1) := by decide +kernel
theorem d_AL_grow1_45 : decode cc_AL_grow1 45 = .ok (.aload_n 0, 1) := by decide +kernel
theorem d_AL_grow1_46 : decode cc_AL_grow1 46 = .ok (.bipush 10, 2) := by decide +kernel
theorem d_AL_grow1_48 : decode cc_AL_grow1 48 = .ok (.iload_n 1, 1) := by decide +kernel
theorem d_AL_grow1_49 : decode cc_AL_grow1 49 = .ok (.invokestatic 79, 3) := by decide +kernel
theorem d_AL_grow1_52 : decode cc_AL_grow1 52 = .ok (.anewarray 7, 3) := by decide +kernel
theorem d_AL_grow1_55 : decode cc_AL_grow1 55 = .ok (.dup_x1, 1) := by decide +kernel
theorem d_AL_grow1_56 : decode cc_AL_grow1 56 = .ok (.putfield 9, 3) := by decide +kernel
theorem d_AL_grow1_59 : decode cc_AL_grow1 59 = .ok (.areturn, 1) := by decide +kernel
theorem d_AL_init_0 : decode cc_AL_init 0 = .ok (.aload_n 0, 1) := by decide +kernel
theorem d_AL_init_1 : decode cc_AL_init 1 = .ok (.invokespecial 1, 3) := by decide +kernel
theorem d_AL_init_4 : decode cc_AL_init 4 = .ok (.aload_n 0, 1) := by decide +kernel
theorem d_AL_init_5 : decode cc_AL_init 5 = .ok (.getstatic 39, 3) := by decide +kernel
theorem d_AL_init_8 : decode cc_AL_init 8 = .ok (.putfield 9, 3) := by decide +kernel
theorem d_AL_init_11 : decode cc_AL_init 11 = .ok (.return_, 1) := by decide +kernel
theorem d_AL_remove_0 : decode cc_AL_remove 0 = .ok (.iload_n 1, 1) := by decide +kernel
theorem d_AL_remove_1 : decode cc_AL_remove 1 = .ok (.aload_n 0, 1) := by decide +kernel
theorem d_AL_remove_2 : decode cc_AL_remove 2 = .ok (.getfield 48, 3) := by decide +kernel
theorem d_AL_remove_5 : decode cc_AL_remove 5 = .ok (.invokestatic 118, 3) := by decide +kernel
theorem d_AL_remove_8 : decode cc_AL_remove 8 = .ok (.pop, 1) := by decide +kernel
theorem d_AL_remove_9 : decode cc_AL_remove 9 = .ok (.aload_n 0, 1) := by decide +kernel
theorem d_AL_remove_10 : decode cc_AL_remove 10 = .ok (.getfield 9, 3) := by decide +kernel
theorem d_AL_remove_13 : decode cc_AL_remove 13 = .ok (.astore_n 2, 1) := by decide +kernel
theorem d_AL_remove_14 : decode cc_AL_remove 14 = .ok (.aload_n 2, 1) := by decide +kernel
theorem d_AL_remove_15 : decode cc_AL_remove 15 = .ok (.iload_n 1, 1) := by decide +kernel
theorem d_AL_remove_16 : decode cc_AL_remove 16 = .ok (.aaload, 1) := by decide +kernel
theorem d_AL_remove_17 : decode cc_AL_remove 17 = .ok (.astore_n 3, 1) := by decide +kernel
theorem d_AL_remove_18 : decode cc_AL_remove 18 = .ok (.aload_n 0, 1) := by decide +kernel
theorem d_AL_remove_19 : decode cc_AL_remove 19 = .ok (.aload_n 2, 1) := by decide +kernel
theorem d_AL_remove_20 : decode cc_AL_remove 20 = .ok (.iload_n 1, 1) := by decide +kernel
theorem d_AL_remove_21 : decode cc_AL_remove 21 = .ok (.invokevirtual 144, 3) := by decide +kernel
theorem d_AL_remove_24 : decode cc_AL_remove 24 = .ok (.aload_n 3, 1) := by decide +kernel
theorem d_AL_remove_25 : decode cc_AL_remove 25 = .ok (.areturn, 1) := by decide +kernel
theorem d_AL_size_0 : decode cc_AL_size 0 = .ok (.aload_n 0, 1) := by decide +kernel
theorem d_AL_size_1 : decode cc_AL_size 1 = .ok (.getfield 48, 3) := by decide +kernel
theorem d_AL_size_4 : decode cc_AL_size 4 = .ok (.ireturn, 1) := by decide +kernel
theorem d_AbC_init_0 : decode cc_AbC_init 0 = .ok (.aload_n 0, 1) := by decide +kernel
theorem d_AbC_init_1 : decode cc_AbC_init 1 = .ok (.invokespecial 1, 3) := by decide +kernel
theorem d_AbC_init_4 : decode cc_AbC_init 4 = .ok (.return_, 1) := by decide +kernel
theorem d_AbL_init_0 : decode cc_AbL_init 0 = .ok (.aload_n 0, 1) := by decide +kernel
theorem d_AbL_init_1 : decode cc_AbL_init 1 = .ok (.invokespecial 1, 3) := by decide +kernel
theorem d_AbL_init_4 : decode cc_AbL_init 4 = .ok (.aload_n 0, 1) := by decide +kernel
theorem d_AbL_init_5 : decode cc_AbL_init 5 = .ok (.iconst 0, 1) := by decide +kernel
theorem d_AbL_init_6 : decode cc_AbL_init 6 = .ok (.putfield 7, 3) := by decide +kernel
theorem d_AbL_init_9 : decode cc_AbL_init 9 = .ok (.return_, 1) := by decide +kernel
theorem d_Ar_copyOf2_0 : decode cc_Ar_copyOf2 0 = .ok (.aload_n 0, 1) := by decide +kernel
theorem d_Ar_copyOf2_1 : decode cc_Ar_copyOf2 1 = .ok (.iload_n 1, 1) := by decide +kernel
theorem d_Ar_copyOf2_2 : decode cc_Ar_copyOf2 2 = .ok (.aload_n 0, 1) := by decide +kernel
theorem d_Ar_copyOf2_3 : decode cc_Ar_copyOf2 3 = .ok (.invokevirtual 86, 3) := by decide +kernel
theorem d_Ar_copyOf2_6 : decode cc_Ar_copyOf2 6 = .ok (.invokestatic 300, 3) := by decide +kernel
theorem d_Ar_copyOf2_9 : decode cc_Ar_copyOf2 9 = .ok (.areturn, 1) := by decide +kernel
theorem d_Ar_copyOf3_0 : decode cc_Ar_copyOf3 0 = .ok (.aload_n 2, 1) := by decide +kernel
theorem d_Ar_copyOf3_1 : decode cc_Ar_copyOf3 1 = .ok (.ldc 110, 2) := by decide +kernel
theorem d_Ar_copyOf3_3 : decode cc_Ar_copyOf3 3 = .ok (.if_acmp .ne 10, 3) := by decide +kernel
theorem d_Ar_copyOf3_6 : decode cc_Ar_copyOf3 6 = .ok (.iload_n 1, 1) := by decide +kernel
theorem d_Ar_copyOf3_7 : decode cc_Ar_copyOf3 7 = .ok (.anewarray 2, 3) := by decide +kernel
theorem d_Ar_copyOf3_10 : decode cc_Ar_copyOf3 10 = .ok (.goto 14, 3) := by decide +kernel
theorem d_Ar_copyOf3_13 : decode cc_Ar_copyOf3 13 = .ok (.aload_n 2, 1) := by decide +kernel
theorem d_Ar_copyOf3_14 : decode cc_Ar_copyOf3 14 = .ok (.invokevirtual 90, 3) := by decide +kernel
theorem d_Ar_copyOf3_17 : decode cc_Ar_copyOf3 17 = .ok (.iload_n 1, 1) := by decide +kernel
theorem d_Ar_copyOf3_18 : decode cc_Ar_copyOf3 18 = .ok (.invokestatic 95, 3) := by decide +kernel
theorem d_Ar_copyOf3_21 : decode cc_Ar_copyOf3 21 = .ok (.checkcast 110, 3) := by decide +kernel
theorem d_Ar_copyOf3_24 : decode cc_Ar_copyOf3 24 = .ok (.astore_n 3, 1) := by decide +kernel
theorem d_Ar_copyOf3_25 : decode cc_Ar_copyOf3 25 = .ok (.aload_n 0, 1) := by decide +kernel
theorem d_Ar_copyOf3_26 : decode cc_Ar_copyOf3 26 = .ok (.iconst 0, 1) := by decide +kernel
theorem d_Ar_copyOf3_27 : decode cc_Ar_copyOf3 27 = .ok (.aload_n 3, 1) := by decide +kernel
theorem d_Ar_copyOf3_28 : decode cc_Ar_copyOf3 28 = .ok (.iconst 0, 1) := by decide +kernel
theorem d_Ar_copyOf3_29 : decode cc_Ar_copyOf3 29 = .ok (.aload_n 0, 1) := by decide +kernel
theorem d_Ar_copyOf3_30 : decode cc_Ar_copyOf3 30 = .ok (.arraylength, 1) := by decide +kernel
theorem d_Ar_copyOf3_31 : decode cc_Ar_copyOf3 31 = .ok (.iload_n 1, 1) := by decide +kernel
theorem d_Ar_copyOf3_32 : decode cc_Ar_copyOf3 32 = .ok (.invokestatic 304, 3) := by decide +kernel
theorem d_Ar_copyOf3_35 : decode cc_Ar_copyOf3 35 = .ok (.invokestatic 150, 3) := by decide +kernel
theorem d_Ar_copyOf3_38 : decode cc_Ar_copyOf3 38 = .ok (.aload_n 3, 1) := by decide +kernel
theorem d_Ar_copyOf3_39 : decode cc_Ar_copyOf3 39 = .ok (.areturn, 1) := by decide +kernel
theorem d_As_hugeLength_0 : decode cc_As_hugeLength 0 = .ok (.iload_n 0, 1) := by decide +kernel
theorem d_As_hugeLength_1 : decode cc_As_hugeLength 1 = .ok (.iload_n 1, 1) := by decide +kernel
theorem d_As_hugeLength_2 : decode cc_As_hugeLength 2 = .ok (.iadd, 1) := by decide +kernel
theorem d_As_hugeLength_3 : decode cc_As_hugeLength 3 = .ok (.istore_n 2, 1) := by decide +kernel
theorem d_As_hugeLength_4 : decode cc_As_hugeLength 4 = .ok (.iload_n 2, 1) := by decide +kernel
theorem d_As_hugeLength_5 : decode cc_As_hugeLength 5 = .ok (.ifCond .ge 44, 3) := by decide +kernel
theorem d_As_hugeLength_8 : decode cc_As_hugeLength 8 = .ok (.new 204, 3) := by decide +kernel
theorem d_As_hugeLength_11 : decode cc_As_hugeLength 11 = .ok (.dup, 1) := by decide +kernel
theorem d_As_hugeLength_12 : decode cc_As_hugeLength 12 = .ok (.new 89, 3) := by decide +kernel
theorem d_As_hugeLength_15 : decode cc_As_hugeLength 15 = .ok (.dup, 1) := by decide +kernel
theorem d_As_hugeLength_16 : decode cc_As_hugeLength 16 = .ok (.invokespecial 91, 3) := by decide +kernel
theorem d_As_hugeLength_19 : decode cc_As_hugeLength 19 = .ok (.ldc 206, 2) := by decide +kernel
theorem d_As_hugeLength_21 : decode cc_As_hugeLength 21 = .ok (.invokevirtual 94, 3) := by decide +kernel
theorem d_As_hugeLength_24 : decode cc_As_hugeLength 24 = .ok (.iload_n 0, 1) := by decide +kernel
theorem d_As_hugeLength_25 : decode cc_As_hugeLength 25 = .ok (.invokevirtual 98, 3) := by decide +kernel
theorem d_As_hugeLength_28 : decode cc_As_hugeLength 28 = .ok (.ldc 208, 2) := by decide +kernel
theorem d_As_hugeLength_30 : decode cc_As_hugeLength 30 = .ok (.invokevirtual 94, 3) := by decide +kernel
theorem d_As_hugeLength_33 : decode cc_As_hugeLength 33 = .ok (.iload_n 1, 1) := by decide +kernel
theorem d_As_hugeLength_34 : decode cc_As_hugeLength 34 = .ok (.invokevirtual 98, 3) := by decide +kernel
theorem d_As_hugeLength_37 : decode cc_As_hugeLength 37 = .ok (.ldc 210, 2) := by decide +kernel
theorem d_As_hugeLength_39 : decode cc_As_hugeLength 39 = .ok (.invokevirtual 94, 3) := by decide +kernel
theorem d_As_hugeLength_42 : decode cc_As_hugeLength 42 = .ok (.invokevirtual 101, 3) := by decide +kernel
theorem d_As_hugeLength_45 : decode cc_As_hugeLength 45 = .ok (.invokespecial 212, 3) := by decide +kernel
theorem d_As_hugeLength_48 : decode cc_As_hugeLength 48 = .ok (.athrow, 1) := by decide +kernel
theorem d_As_hugeLength_49 : decode cc_As_hugeLength 49 = .ok (.iload_n 2, 1) := by decide +kernel
theorem d_As_hugeLength_50 : decode cc_As_hugeLength 50 = .ok (.ldc 200, 2) := by decide +kernel
theorem d_As_hugeLength_52 : decode cc_As_hugeLength 52 = .ok (.if_icmp .gt 6, 3) := by decide +kernel
theorem d_As_hugeLength_55 : decode cc_As_hugeLength 55 = .ok (.ldc 200, 2) := by decide +kernel
theorem d_As_hugeLength_57 : decode cc_As_hugeLength 57 = .ok (.ireturn, 1) := by decide +kernel
theorem d_As_hugeLength_58 : decode cc_As_hugeLength 58 = .ok (.iload_n 2, 1) := by decide +kernel
theorem d_As_hugeLength_59 : decode cc_As_hugeLength 59 = .ok (.ireturn, 1) := by decide +kernel
theorem d_As_newLength_0 : decode cc_As_newLength 0 = .ok (.iload_n 0, 1) := by decide +kernel
theorem d_As_newLength_1 : decode cc_As_newLength 1 = .ok (.iload_n 1, 1) := by decide +kernel
theorem d_As_newLength_2 : decode cc_As_newLength 2 = .ok (.iload_n 2, 1) := by decide +kernel
theorem d_As_newLength_3 : decode cc_As_newLength 3 = .ok (.invokestatic 194, 3) := by decide +kernel
theorem d_As_newLength_6 : decode cc_As_newLength 6 = .ok (.iadd, 1) := by decide +kernel
theorem d_As_newLength_7 : decode cc_As_newLength 7 = .ok (.istore_n 3, 1) := by decide +kernel
theorem d_As_newLength_8 : decode cc_As_newLength 8 = .ok (.iconst 0, 1) := by decide +kernel
theorem d_As_newLength_9 : decode cc_As_newLength 9 = .ok (.iload_n 3, 1) := by decide +kernel
theorem d_As_newLength_10 : decode cc_As_newLength 10 = .ok (.if_icmp .ge 11, 3) := by decide +kernel
theorem d_As_newLength_13 : decode cc_As_newLength 13 = .ok (.iload_n 3, 1) := by decide +kernel
theorem d_As_newLength_14 : decode cc_As_newLength 14 = .ok (.ldc 200, 2) := by decide +kernel
theorem d_As_newLength_16 : decode cc_As_newLength 16 = .ok (.if_icmp .gt 5, 3) := by decide +kernel
theorem d_As_newLength_19 : decode cc_As_newLength 19 = .ok (.iload_n 3, 1) := by decide +kernel
theorem d_As_newLength_20 : decode cc_As_newLength 20 = .ok (.ireturn, 1) := by decide +kernel
theorem d_As_newLength_21 : decode cc_As_newLength 21 = .ok (.iload_n 0, 1) := by decide +kernel
theorem d_As_newLength_22 : decode cc_As_newLength 22 = .ok (.iload_n 1, 1) := by decide +kernel
theorem d_As_newLength_23 : decode cc_As_newLength 23 = .ok (.invokestatic 201, 3) := by decide +kernel
theorem d_As_newLength_26 : decode cc_As_newLength 26 = .ok (.ireturn, 1) := by decide +kernel
theorem d_Job_doLeaf_0 : decode cc_Job_doLeaf 0 = .ok (.aload_n 0, 1) := by decide +kernel
theorem d_Job_doLeaf_1 : decode cc_Job_doLeaf 1 = .ok (.getfield 21, 3) := by decide +kernel
theorem d_Job_doLeaf_4 : decode cc_Job_doLeaf 4 = .ok (.tableswitch 172 0 4 #[36, 57, 78, 128, 145], 36) := by decide +kernel
theorem d_Job_doLeaf_40 : decode cc_Job_doLeaf 40 = .ok (.aload_n 1, 1) := by decide +kernel
theorem d_Job_doLeaf_41 : decode cc_Job_doLeaf 41 = .ok (.aload_n 0, 1) := by decide +kernel
theorem d_Job_doLeaf_42 : decode cc_Job_doLeaf 42 = .ok (.getfield 24, 3) := by decide +kernel
theorem d_Job_doLeaf_45 : decode cc_Job_doLeaf 45 = .ok (.aload_n 1, 1) := by decide +kernel
theorem d_Job_doLeaf_46 : decode cc_Job_doLeaf 46 = .ok (.getfield 34, 3) := by decide +kernel
theorem d_Job_doLeaf_49 : decode cc_Job_doLeaf 49 = .ok (.aload_n 1, 1) := by decide +kernel
theorem d_Job_doLeaf_50 : decode cc_Job_doLeaf 50 = .ok (.getfield 39, 3) := by decide +kernel
theorem d_Job_doLeaf_53 : decode cc_Job_doLeaf 53 = .ok (.invokevirtual 42, 3) := by decide +kernel
theorem d_Job_doLeaf_56 : decode cc_Job_doLeaf 56 = .ok (.putfield 48, 3) := by decide +kernel
theorem d_Job_doLeaf_59 : decode cc_Job_doLeaf 59 = .ok (.iconst (-1), 1) := by decide +kernel
theorem d_Job_doLeaf_60 : decode cc_Job_doLeaf 60 = .ok (.ireturn, 1) := by decide +kernel
theorem d_Job_doLeaf_61 : decode cc_Job_doLeaf 61 = .ok (.aload_n 1, 1) := by decide +kernel
theorem d_Job_doLeaf_62 : decode cc_Job_doLeaf 62 = .ok (.aload_n 0, 1) := by decide +kernel
theorem d_Job_doLeaf_63 : decode cc_Job_doLeaf 63 = .ok (.getfield 24, 3) := by decide +kernel
theorem d_Job_doLeaf_66 : decode cc_Job_doLeaf 66 = .ok (.aload_n 1, 1) := by decide +kernel
theorem d_Job_doLeaf_67 : decode cc_Job_doLeaf 67 = .ok (.getfield 34, 3) := by decide +kernel
theorem d_Job_doLeaf_70 : decode cc_Job_doLeaf 70 = .ok (.aload_n 1, 1) := by decide +kernel
theorem d_Job_doLeaf_71 : decode cc_Job_doLeaf 71 = .ok (.getfield 39, 3) := by decide +kernel
theorem d_Job_doLeaf_74 : decode cc_Job_doLeaf 74 = .ok (.invokevirtual 52, 3) := by decide +kernel
theorem d_Job_doLeaf_77 : decode cc_Job_doLeaf 77 = .ok (.putfield 48, 3) := by decide +kernel
theorem d_Job_doLeaf_80 : decode cc_Job_doLeaf 80 = .ok (.iconst (-1), 1) := by decide +kernel
theorem d_Job_doLeaf_81 : decode cc_Job_doLeaf 81 = .ok (.ireturn, 1) := by decide +kernel
theorem d_Job_doLeaf_82 : decode cc_Job_doLeaf 82 = .ok (.aload_n 0, 1) := by decide +kernel
theorem d_Job_doLeaf_83 : decode cc_Job_doLeaf 83 = .ok (.getfield 55, 3) := by decide +kernel
theorem d_Job_doLeaf_86 : decode cc_Job_doLeaf 86 = .ok (.ifCond .eq 25, 3) := by decide +kernel
theorem d_Job_doLeaf_89 : decode cc_Job_doLeaf 89 = .ok (.aload_n 0, 1) := by decide +kernel
theorem d_Job_doLeaf_90 : decode cc_Job_doLeaf 90 = .ok (.getfield 24, 3) := by decide +kernel
theorem d_Job_doLeaf_93 : decode cc_Job_doLeaf 93 = .ok (.aload_n 1, 1) := by decide +kernel
theorem d_Job_doLeaf_94 : decode cc_Job_doLeaf 94 = .ok (.getfield 34, 3) := by decide +kernel
theorem d_Job_doLeaf_97 : decode cc_Job_doLeaf 97 = .ok (.aload_n 1, 1) := by decide +kernel
theorem d_Job_doLeaf_98 : decode cc_Job_doLeaf 98 = .ok (.getfield 39, 3) := by decide +kernel
theorem d_Job_doLeaf_101 : decode cc_Job_doLeaf 101 = .ok (.aload_n 1, 1) := by decide +kernel
theorem d_Job_doLeaf_102 : decode cc_Job_doLeaf 102 = .ok (.getfield 59, 3) := by decide +kernel
theorem d_Job_doLeaf_105 : decode cc_Job_doLeaf 105 = .ok (.invokevirtual 62, 3) := by decide +kernel
theorem d_Job_doLeaf_108 : decode cc_Job_doLeaf 108 = .ok (.goto 22, 3) := by decide +kernel
theorem d_Job_doLeaf_111 : decode cc_Job_doLeaf 111 = .ok (.aload_n 1, 1) := by decide +kernel
theorem d_Job_doLeaf_112 : decode cc_Job_doLeaf 112 = .ok (.aload_n 0, 1) := by decide +kernel
theorem d_Job_doLeaf_113 : decode cc_Job_doLeaf 113 = .ok (.getfield 24, 3) := by decide +kernel
theorem d_Job_doLeaf_116 : decode cc_Job_doLeaf 116 = .ok (.aload_n 1, 1) := by decide +kernel
theorem d_Job_doLeaf_117 : decode cc_Job_doLeaf 117 = .ok (.getfield 34, 3) := by decide +kernel
theorem d_Job_doLeaf_120 : decode cc_Job_doLeaf 120 = .ok (.aload_n 1, 1) := by decide +kernel
theorem d_Job_doLeaf_121 : decode cc_Job_doLeaf 121 = .ok (.getfield 39, 3) := by decide +kernel
theorem d_Job_doLeaf_124 : decode cc_Job_doLeaf 124 = .ok (.invokevirtual 42, 3) := by decide +kernel
theorem d_Job_doLeaf_127 : decode cc_Job_doLeaf 127 = .ok (.putfield 48, 3) := by decide +kernel
theorem d_Job_doLeaf_130 : decode cc_Job_doLeaf 130 = .ok (.iconst (-1), 1) := by decide +kernel
theorem d_Job_doLeaf_131 : decode cc_Job_doLeaf 131 = .ok (.ireturn, 1) := by decide +kernel
theorem d_Job_doLeaf_132 : decode cc_Job_doLeaf 132 = .ok (.aload_n 0, 1) := by decide +kernel
theorem d_Job_doLeaf_133 : decode cc_Job_doLeaf 133 = .ok (.getfield 24, 3) := by decide +kernel
theorem d_Job_doLeaf_136 : decode cc_Job_doLeaf 136 = .ok (.aload_n 1, 1) := by decide +kernel
theorem d_Job_doLeaf_137 : decode cc_Job_doLeaf 137 = .ok (.getfield 34, 3) := by decide +kernel
theorem d_Job_doLeaf_140 : decode cc_Job_doLeaf 140 = .ok (.aload_n 1, 1) := by decide +kernel
theorem d_Job_doLeaf_141 : decode cc_Job_doLeaf 141 = .ok (.getfield 39, 3) := by decide +kernel
theorem d_Job_doLeaf_144 : decode cc_Job_doLeaf 144 = .ok (.invokevirtual 66, 3) := by decide +kernel
theorem d_Job_doLeaf_147 : decode cc_Job_doLeaf 147 = .ok (.iconst (-1), 1) := by decide +kernel
theorem d_Job_doLeaf_148 : decode cc_Job_doLeaf 148 = .ok (.ireturn, 1) := by decide +kernel
theorem d_Job_doLeaf_149 : decode cc_Job_doLeaf 149 = .ok (.aload_n 0, 1) := by decide +kernel
theorem d_Job_doLeaf_150 : decode cc_Job_doLeaf 150 = .ok (.getfield 24, 3) := by decide +kernel
theorem d_Job_doLeaf_153 : decode cc_Job_doLeaf 153 = .ok (.aload_n 1, 1) := by decide +kernel
theorem d_Job_doLeaf_154 : decode cc_Job_doLeaf 154 = .ok (.getfield 34, 3) := by decide +kernel
theorem d_Job_doLeaf_157 : decode cc_Job_doLeaf 157 = .ok (.aload_n 1, 1) := by decide +kernel
theorem d_Job_doLeaf_158 : decode cc_Job_doLeaf 158 = .ok (.getfield 39, 3) := by decide +kernel
theorem d_Job_doLeaf_161 : decode cc_Job_doLeaf 161 = .ok (.aload_n 0, 1) := by decide +kernel
theorem d_Job_doLeaf_162 : decode cc_Job_doLeaf 162 = .ok (.getfield 28, 3) := by decide +kernel
theorem d_Job_doLeaf_165 : decode cc_Job_doLeaf 165 = .ok (.i2l, 1) := by decide +kernel
theorem d_Job_doLeaf_166 : decode cc_Job_doLeaf 166 = .ok (.aload_n 0, 1) := by decide +kernel
theorem d_Job_doLeaf_167 : decode cc_Job_doLeaf 167 = .ok (.getfield 31, 3) := by decide +kernel
theorem d_Job_doLeaf_170 : decode cc_Job_doLeaf 170 = .ok (.i2l, 1) := by decide +kernel
theorem d_Job_doLeaf_171 : decode cc_Job_doLeaf 171 = .ok (.invokevirtual 70, 3) := by decide +kernel
theorem d_Job_doLeaf_174 : decode cc_Job_doLeaf 174 = .ok (.iconst (-1), 1) := by decide +kernel
theorem d_Job_doLeaf_175 : decode cc_Job_doLeaf 175 = .ok (.ireturn, 1) := by decide +kernel
theorem d_Job_doLeaf_176 : decode cc_Job_doLeaf 176 = .ok (.aload_n 0, 1) := by decide +kernel
theorem d_Job_doLeaf_177 : decode cc_Job_doLeaf 177 = .ok (.getfield 24, 3) := by decide +kernel
theorem d_Job_doLeaf_180 : decode cc_Job_doLeaf 180 = .ok (.aload_n 1, 1) := by decide +kernel
theorem d_Job_doLeaf_181 : decode cc_Job_doLeaf 181 = .ok (.getfield 34, 3) := by decide +kernel
theorem d_Job_doLeaf_184 : decode cc_Job_doLeaf 184 = .ok (.aload_n 1, 1) := by decide +kernel
theorem d_Job_doLeaf_185 : decode cc_Job_doLeaf 185 = .ok (.getfield 39, 3) := by decide +kernel
theorem d_Job_doLeaf_188 : decode cc_Job_doLeaf 188 = .ok (.aload_n 0, 1) := by decide +kernel
theorem d_Job_doLeaf_189 : decode cc_Job_doLeaf 189 = .ok (.getfield 28, 3) := by decide +kernel
theorem d_Job_doLeaf_192 : decode cc_Job_doLeaf 192 = .ok (.i2l, 1) := by decide +kernel
theorem d_Job_doLeaf_193 : decode cc_Job_doLeaf 193 = .ok (.invokevirtual 74, 3) := by decide +kernel
theorem d_Job_doLeaf_196 : decode cc_Job_doLeaf 196 = .ok (.ireturn, 1) := by decide +kernel
theorem d_Job_init_0 : decode cc_Job_init 0 = .ok (.aload_n 0, 1) := by decide +kernel
theorem d_Job_init_1 : decode cc_Job_init 1 = .ok (.invokespecial 3, 3) := by decide +kernel
theorem d_Job_init_4 : decode cc_Job_init 4 = .ok (.aload_n 0, 1) := by decide +kernel
theorem d_Job_init_5 : decode cc_Job_init 5 = .ok (.iconst 0, 1) := by decide +kernel
theorem d_Job_init_6 : decode cc_Job_init 6 = .ok (.putfield 9, 3) := by decide +kernel
theorem d_Job_init_9 : decode cc_Job_init 9 = .ok (.aload_n 0, 1) := by decide +kernel
theorem d_Job_init_10 : decode cc_Job_init 10 = .ok (.iconst (-1), 1) := by decide +kernel
theorem d_Job_init_11 : decode cc_Job_init 11 = .ok (.putfield 15, 3) := by decide +kernel
theorem d_Job_init_14 : decode cc_Job_init 14 = .ok (.aload_n 0, 1) := by decide +kernel
theorem d_Job_init_15 : decode cc_Job_init 15 = .ok (.iload_n 1, 1) := by decide +kernel
theorem d_Job_init_16 : decode cc_Job_init 16 = .ok (.putfield 18, 3) := by decide +kernel
theorem d_Job_init_19 : decode cc_Job_init 19 = .ok (.aload_n 0, 1) := by decide +kernel
theorem d_Job_init_20 : decode cc_Job_init 20 = .ok (.iload_n 2, 1) := by decide +kernel
theorem d_Job_init_21 : decode cc_Job_init 21 = .ok (.putfield 21, 3) := by decide +kernel
theorem d_Job_init_24 : decode cc_Job_init 24 = .ok (.aload_n 0, 1) := by decide +kernel
theorem d_Job_init_25 : decode cc_Job_init 25 = .ok (.aload_n 3, 1) := by decide +kernel
theorem d_Job_init_26 : decode cc_Job_init 26 = .ok (.putfield 24, 3) := by decide +kernel
theorem d_Job_init_29 : decode cc_Job_init 29 = .ok (.aload_n 0, 1) := by decide +kernel
theorem d_Job_init_30 : decode cc_Job_init 30 = .ok (.iload 4, 2) := by decide +kernel
theorem d_Job_init_32 : decode cc_Job_init 32 = .ok (.putfield 28, 3) := by decide +kernel
theorem d_Job_init_35 : decode cc_Job_init 35 = .ok (.aload_n 0, 1) := by decide +kernel
theorem d_Job_init_36 : decode cc_Job_init 36 = .ok (.iload 5, 2) := by decide +kernel
theorem d_Job_init_38 : decode cc_Job_init 38 = .ok (.putfield 31, 3) := by decide +kernel
theorem d_Job_init_41 : decode cc_Job_init 41 = .ok (.return_, 1) := by decide +kernel
theorem d_Job_joinParts_0 : decode cc_Job_joinParts 0 = .ok (.aload_n 0, 1) := by decide +kernel
theorem d_Job_joinParts_1 : decode cc_Job_joinParts 1 = .ok (.getfield 21, 3) := by decide +kernel
theorem d_Job_joinParts_4 : decode cc_Job_joinParts 4 = .ok (.iconst 3, 1) := by decide +kernel
theorem d_Job_joinParts_5 : decode cc_Job_joinParts 5 = .ok (.if_icmp .ne 21, 3) := by decide +kernel
theorem d_Job_joinParts_8 : decode cc_Job_joinParts 8 = .ok (.aload_n 0, 1) := by decide +kernel
theorem d_Job_joinParts_9 : decode cc_Job_joinParts 9 = .ok (.getfield 24, 3) := by decide +kernel
theorem d_Job_joinParts_12 : decode cc_Job_joinParts 12 = .ok (.aload_n 1, 1) := by decide +kernel
theorem d_Job_joinParts_13 : decode cc_Job_joinParts 13 = .ok (.getfield 34, 3) := by decide +kernel
theorem d_Job_joinParts_16 : decode cc_Job_joinParts 16 = .ok (.aload_n 1, 1) := by decide +kernel
theorem d_Job_joinParts_17 : decode cc_Job_joinParts 17 = .ok (.getfield 39, 3) := by decide +kernel
theorem d_Job_joinParts_20 : decode cc_Job_joinParts 20 = .ok (.invokevirtual 66, 3) := by decide +kernel
theorem d_Job_joinParts_23 : decode cc_Job_joinParts 23 = .ok (.goto 59, 3) := by decide +kernel
theorem d_Job_joinParts_26 : decode cc_Job_joinParts 26 = .ok (.aload_n 1, 1) := by decide +kernel
theorem d_Job_joinParts_27 : decode cc_Job_joinParts 27 = .ok (.invokevirtual 78, 3) := by decide +kernel
theorem d_Job_joinParts_30 : decode cc_Job_joinParts 30 = .ok (.ifCond .eq 52, 3) := by decide +kernel
theorem d_Job_joinParts_33 : decode cc_Job_joinParts 33 = .ok (.aload_n 1, 1) := by decide +kernel
theorem d_Job_joinParts_34 : decode cc_Job_joinParts 34 = .ok (.getfield 82, 3) := by decide +kernel
theorem d_Job_joinParts_37 : decode cc_Job_joinParts 37 = .ok (.getfield 48, 3) := by decide +kernel
theorem d_Job_joinParts_40 : decode cc_Job_joinParts 40 = .ok (.lstore_n 2, 1) := by decide +kernel
theorem d_Job_joinParts_41 : decode cc_Job_joinParts 41 = .ok (.aload_n 1, 1) := by decide +kernel
theorem d_Job_joinParts_42 : decode cc_Job_joinParts 42 = .ok (.getfield 86, 3) := by decide +kernel
theorem d_Job_joinParts_45 : decode cc_Job_joinParts 45 = .ok (.getfield 48, 3) := by decide +kernel
theorem d_Job_joinParts_48 : decode cc_Job_joinParts 48 = .ok (.lstore 4, 2) := by decide +kernel
theorem d_Job_joinParts_50 : decode cc_Job_joinParts 50 = .ok (.aload_n 1, 1) := by decide +kernel
theorem d_Job_joinParts_51 : decode cc_Job_joinParts 51 = .ok (.aload_n 0, 1) := by decide +kernel
theorem d_Job_joinParts_52 : decode cc_Job_joinParts 52 = .ok (.getfield 21, 3) := by decide +kernel
theorem d_Job_joinParts_55 : decode cc_Job_joinParts 55 = .ok (.iconst 1, 1) := by decide +kernel
theorem d_Job_joinParts_56 : decode cc_Job_joinParts 56 = .ok (.if_icmp .ne 12, 3) := by decide +kernel
theorem d_Job_joinParts_59 : decode cc_Job_joinParts 59 = .ok (.lload_n 2, 1) := by decide +kernel
theorem d_Job_joinParts_60 : decode cc_Job_joinParts 60 = .ok (.lload 4, 2) := by decide +kernel
theorem d_Job_joinParts_62 : decode cc_Job_joinParts 62 = .ok (.invokestatic 89, 3) := by decide +kernel
theorem d_Job_joinParts_65 : decode cc_Job_joinParts 65 = .ok (.goto 14, 3) := by decide +kernel
theorem d_Job_joinParts_68 : decode cc_Job_joinParts 68 = .ok (.aload_n 0, 1) := by decide +kernel
theorem d_Job_joinParts_69 : decode cc_Job_joinParts 69 = .ok (.getfield 24, 3) := by decide +kernel
theorem d_Job_joinParts_72 : decode cc_Job_joinParts 72 = .ok (.lload_n 2, 1) := by decide +kernel
theorem d_Job_joinParts_73 : decode cc_Job_joinParts 73 = .ok (.lload 4, 2) := by decide +kernel
theorem d_Job_joinParts_75 : decode cc_Job_joinParts 75 = .ok (.ladd, 1) := by decide +kernel
theorem d_Job_joinParts_76 : decode cc_Job_joinParts 76 = .ok (.invokevirtual 95, 3) := by decide +kernel
theorem d_Job_joinParts_79 : decode cc_Job_joinParts 79 = .ok (.putfield 48, 3) := by decide +kernel
theorem d_Job_joinParts_82 : decode cc_Job_joinParts 82 = .ok (.return_, 1) := by decide +kernel
theorem d_Ma_floorDiv_0 : decode cc_Ma_floorDiv 0 = .ok (.lload_n 0, 1) := by decide +kernel
theorem d_Ma_floorDiv_1 : decode cc_Ma_floorDiv 1 = .ok (.lload_n 2, 1) := by decide +kernel
theorem d_Ma_floorDiv_2 : decode cc_Ma_floorDiv 2 = .ok (.ldiv, 1) := by decide +kernel
theorem d_Ma_floorDiv_3 : decode cc_Ma_floorDiv 3 = .ok (.lstore 4, 2) := by decide +kernel
theorem d_Ma_floorDiv_5 : decode cc_Ma_floorDiv 5 = .ok (.lload_n 0, 1) := by decide +kernel
theorem d_Ma_floorDiv_6 : decode cc_Ma_floorDiv 6 = .ok (.lload_n 2, 1) := by decide +kernel
theorem d_Ma_floorDiv_7 : decode cc_Ma_floorDiv 7 = .ok (.lxor, 1) := by decide +kernel
theorem d_Ma_floorDiv_8 : decode cc_Ma_floorDiv 8 = .ok (.lconst 0, 1) := by decide +kernel
theorem d_Ma_floorDiv_9 : decode cc_Ma_floorDiv 9 = .ok (.lcmp, 1) := by decide +kernel
theorem d_Ma_floorDiv_10 : decode cc_Ma_floorDiv 10 = .ok (.ifCond .ge 17, 3) := by decide +kernel
theorem d_Ma_floorDiv_13 : decode cc_Ma_floorDiv 13 = .ok (.lload 4, 2) := by decide +kernel
theorem d_Ma_floorDiv_15 : decode cc_Ma_floorDiv 15 = .ok (.lload_n 2, 1) := by decide +kernel
theorem d_Ma_floorDiv_16 : decode cc_Ma_floorDiv 16 = .ok (.lmul, 1) := by decide +kernel
theorem d_Ma_floorDiv_17 : decode cc_Ma_floorDiv 17 = .ok (.lload_n 0, 1) := by decide +kernel
theorem d_Ma_floorDiv_18 : decode cc_Ma_floorDiv 18 = .ok (.lcmp, 1) := by decide +kernel
theorem d_Ma_floorDiv_19 : decode cc_Ma_floorDiv 19 = .ok (.ifCond .eq 8, 3) := by decide +kernel
theorem d_Ma_floorDiv_22 : decode cc_Ma_floorDiv 22 = .ok (.lload 4, 2) := by decide +kernel
theorem d_Ma_floorDiv_24 : decode cc_Ma_floorDiv 24 = .ok (.lconst 1, 1) := by decide +kernel
theorem d_Ma_floorDiv_25 : decode cc_Ma_floorDiv 25 = .ok (.lsub, 1) := by decide +kernel
theorem d_Ma_floorDiv_26 : decode cc_Ma_floorDiv 26 = .ok (.lreturn, 1) := by decide +kernel
theorem d_Ma_floorDiv_27 : decode cc_Ma_floorDiv 27 = .ok (.lload 4, 2) := by decide +kernel
theorem d_Ma_floorDiv_29 : decode cc_Ma_floorDiv 29 = .ok (.lreturn, 1) := by decide +kernel
theorem d_Ma_maxI_0 : decode cc_Ma_maxI 0 = .ok (.iload_n 0, 1) := by decide +kernel
theorem d_Ma_maxI_1 : decode cc_Ma_maxI 1 = .ok (.iload_n 1, 1) := by decide +kernel
theorem d_Ma_maxI_2 : decode cc_Ma_maxI 2 = .ok (.if_icmp .lt 7, 3) := by decide +kernel
theorem d_Ma_maxI_5 : decode cc_Ma_maxI 5 = .ok (.iload_n 0, 1) := by decide +kernel
theorem d_Ma_maxI_6 : decode cc_Ma_maxI 6 = .ok (.goto 4, 3) := by decide +kernel
theorem d_Ma_maxI_9 : decode cc_Ma_maxI 9 = .ok (.iload_n 1, 1) := by decide +kernel
theorem d_Ma_maxI_10 : decode cc_Ma_maxI 10 = .ok (.ireturn, 1) := by decide +kernel
theorem d_Ma_maxL_0 : decode cc_Ma_maxL 0 = .ok (.lload_n 0, 1) := by decide +kernel
theorem d_Ma_maxL_1 : decode cc_Ma_maxL 1 = .ok (.lload_n 2, 1) := by decide +kernel
theorem d_Ma_maxL_2 : decode cc_Ma_maxL 2 = .ok (.lcmp, 1) := by decide +kernel
theorem d_Ma_maxL_3 : decode cc_Ma_maxL 3 = .ok (.ifCond .lt 7, 3) := by decide +kernel
theorem d_Ma_maxL_6 : decode cc_Ma_maxL 6 = .ok (.lload_n 0, 1) := by decide +kernel
theorem d_Ma_maxL_7 : decode cc_Ma_maxL 7 = .ok (.goto 4, 3) := by decide +kernel
theorem d_Ma_maxL_10 : decode cc_Ma_maxL 10 = .ok (.lload_n 2, 1) := by decide +kernel
theorem d_Ma_maxL_11 : decode cc_Ma_maxL 11 = .ok (.lreturn, 1) := by decide +kernel
theorem d_Ma_minI_0 : decode cc_Ma_minI 0 = .ok (.iload_n 0, 1) := by decide +kernel
theorem d_Ma_minI_1 : decode cc_Ma_minI 1 = .ok (.iload_n 1, 1) := by decide +kernel
theorem d_Ma_minI_2 : decode cc_Ma_minI 2 = .ok (.if_icmp .gt 7, 3) := by decide +kernel
theorem d_Ma_minI_5 : decode cc_Ma_minI 5 = .ok (.iload_n 0, 1) := by decide +kernel
theorem d_Ma_minI_6 : decode cc_Ma_minI 6 = .ok (.goto 4, 3) := by decide +kernel
theorem d_Ma_minI_9 : decode cc_Ma_minI 9 = .ok (.iload_n 1, 1) := by decide +kernel
theorem d_Ma_minI_10 : decode cc_Ma_minI 10 = .ok (.ireturn, 1) := by decide +kernel
theorem d_Ma_minL_0 : decode cc_Ma_minL 0 = .ok (.lload_n 0, 1) := by decide +kernel
theorem d_Ma_minL_1 : decode cc_Ma_minL 1 = .ok (.lload_n 2, 1) := by decide +kernel
theorem d_Ma_minL_2 : decode cc_Ma_minL 2 = .ok (.lcmp, 1) := by decide +kernel
theorem d_Ma_minL_3 : decode cc_Ma_minL 3 = .ok (.ifCond .gt 7, 3) := by decide +kernel
theorem d_Ma_minL_6 : decode cc_Ma_minL 6 = .ok (.lload_n 0, 1) := by decide +kernel
theorem d_Ma_minL_7 : decode cc_Ma_minL 7 = .ok (.goto 4, 3) := by decide +kernel
theorem d_Ma_minL_10 : decode cc_Ma_minL 10 = .ok (.lload_n 2, 1) := by decide +kernel
theorem d_Ma_minL_11 : decode cc_Ma_minL 11 = .ok (.lreturn, 1) := by decide +kernel
theorem d_Ob_checkIndex_0 : decode cc_Ob_checkIndex 0 = .ok (.iload_n 0, 1) := by decide +kernel
theorem d_Ob_checkIndex_1 : decode cc_Ob_checkIndex 1 = .ok (.iload_n 1, 1) := by decide +kernel
theorem d_Ob_checkIndex_2 : decode cc_Ob_checkIndex 2 = .ok (.aconst_null, 1) := by decide +kernel
theorem d_Ob_checkIndex_3 : decode cc_Ob_checkIndex 3 = .ok (.invokestatic 105, 3) := by decide +kernel
theorem d_Ob_checkIndex_6 : decode cc_Ob_checkIndex 6 = .ok (.ireturn, 1) := by decide +kernel
theorem d_Oj_init_0 : decode cc_Oj_init 0 = .ok (.return_, 1) := by decide +kernel
theorem d_Pc_checkIndex_0 : decode cc_Pc_checkIndex 0 = .ok (.iload_n 0, 1) := by decide +kernel
theorem d_Pc_checkIndex_1 : decode cc_Pc_checkIndex 1 = .ok (.ifCond .lt 8, 3) := by decide +kernel
theorem d_Pc_checkIndex_4 : decode cc_Pc_checkIndex 4 = .ok (.iload_n 0, 1) := by decide +kernel
theorem d_Pc_checkIndex_5 : decode cc_Pc_checkIndex 5 = .ok (.iload_n 1, 1) := by decide +kernel
theorem d_Pc_checkIndex_6 : decode cc_Pc_checkIndex 6 = .ok (.if_icmp .lt 10, 3) := by decide +kernel
theorem d_Pc_checkIndex_9 : decode cc_Pc_checkIndex 9 = .ok (.aload_n 2, 1) := by decide +kernel
theorem d_Pc_checkIndex_10 : decode cc_Pc_checkIndex 10 = .ok (.iload_n 0, 1) := by decide +kernel
theorem d_Pc_checkIndex_11 : decode cc_Pc_checkIndex 11 = .ok (.iload_n 1, 1) := by decide +kernel
theorem d_Pc_checkIndex_12 : decode cc_Pc_checkIndex 12 = .ok (.invokestatic 95, 3) := by decide +kernel
theorem d_Pc_checkIndex_15 : decode cc_Pc_checkIndex 15 = .ok (.athrow, 1) := by decide +kernel
theorem d_Pc_checkIndex_16 : decode cc_Pc_checkIndex 16 = .ok (.iload_n 0, 1) := by decide +kernel
theorem d_Pc_checkIndex_17 : decode cc_Pc_checkIndex 17 = .ok (.ireturn, 1) := by decide +kernel
theorem d_Row_addUp_0 : decode cc_Row_addUp 0 = .ok (.lload_n 3, 1) := by decide +kernel
theorem d_Row_addUp_1 : decode cc_Row_addUp 1 = .ok (.lstore 5, 2) := by decide +kernel
theorem d_Row_addUp_3 : decode cc_Row_addUp 3 = .ok (.iload_n 1, 1) := by decide +kernel
theorem d_Row_addUp_4 : decode cc_Row_addUp 4 = .ok (.istore 7, 2) := by decide +kernel
theorem d_Row_addUp_6 : decode cc_Row_addUp 6 = .ok (.iload 7, 2) := by decide +kernel
theorem d_Row_addUp_8 : decode cc_Row_addUp 8 = .ok (.iload_n 2, 1) := by decide +kernel
theorem d_Row_addUp_9 : decode cc_Row_addUp 9 = .ok (.if_icmp .ge 34, 3) := by decide +kernel
theorem d_Row_addUp_12 : decode cc_Row_addUp 12 = .ok (.aload_n 0, 1) := by decide +kernel
theorem d_Row_addUp_13 : decode cc_Row_addUp 13 = .ok (.lload 5, 2) := by decide +kernel
theorem d_Row_addUp_15 : decode cc_Row_addUp 15 = .ok (.aload_n 0, 1) := by decide +kernel
theorem d_Row_addUp_16 : decode cc_Row_addUp 16 = .ok (.getfield 9, 3) := by decide +kernel
theorem d_Row_addUp_19 : decode cc_Row_addUp 19 = .ok (.iload 7, 2) := by decide +kernel
theorem d_Row_addUp_21 : decode cc_Row_addUp 21 = .ok (.laload, 1) := by decide +kernel
theorem d_Row_addUp_22 : decode cc_Row_addUp 22 = .ok (.ladd, 1) := by decide +kernel
theorem d_Row_addUp_23 : decode cc_Row_addUp 23 = .ok (.invokevirtual 35, 3) := by decide +kernel
theorem d_Row_addUp_26 : decode cc_Row_addUp 26 = .ok (.lstore 5, 2) := by decide +kernel
theorem d_Row_addUp_28 : decode cc_Row_addUp 28 = .ok (.aload_n 0, 1) := by decide +kernel
theorem d_Row_addUp_29 : decode cc_Row_addUp 29 = .ok (.getfield 9, 3) := by decide +kernel
theorem d_Row_addUp_32 : decode cc_Row_addUp 32 = .ok (.iload 7, 2) := by decide +kernel
theorem d_Row_addUp_34 : decode cc_Row_addUp 34 = .ok (.lload 5, 2) := by decide +kernel
theorem d_Row_addUp_36 : decode cc_Row_addUp 36 = .ok (.lastore, 1) := by decide +kernel
theorem d_Row_addUp_37 : decode cc_Row_addUp 37 = .ok (.iinc 7 1, 3) := by decide +kernel
theorem d_Row_addUp_40 : decode cc_Row_addUp 40 = .ok (.goto (-34), 3) := by decide +kernel
theorem d_Row_addUp_43 : decode cc_Row_addUp 43 = .ok (.return_, 1) := by decide +kernel
theorem d_Row_greatestOf_0 : decode cc_Row_greatestOf 0 = .ok (.aload_n 0, 1) := by decide +kernel
theorem d_Row_greatestOf_1 : decode cc_Row_greatestOf 1 = .ok (.getfield 9, 3) := by decide +kernel
theorem d_Row_greatestOf_4 : decode cc_Row_greatestOf 4 = .ok (.iload_n 1, 1) := by decide +kernel
theorem d_Row_greatestOf_5 : decode cc_Row_greatestOf 5 = .ok (.laload, 1) := by decide +kernel
theorem d_Row_greatestOf_6 : decode cc_Row_greatestOf 6 = .ok (.lstore_n 3, 1) := by decide +kernel
theorem d_Row_greatestOf_7 : decode cc_Row_greatestOf 7 = .ok (.iload_n 1, 1) := by decide +kernel
theorem d_Row_greatestOf_8 : decode cc_Row_greatestOf 8 = .ok (.iconst 1, 1) := by decide +kernel
theorem d_Row_greatestOf_9 : decode cc_Row_greatestOf 9 = .ok (.iadd, 1) := by decide +kernel
theorem d_Row_greatestOf_10 : decode cc_Row_greatestOf 10 = .ok (.istore 5, 2) := by decide +kernel
theorem d_Row_greatestOf_12 : decode cc_Row_greatestOf 12 = .ok (.iload 5, 2) := by decide +kernel
theorem d_Row_greatestOf_14 : decode cc_Row_greatestOf 14 = .ok (.iload_n 2, 1) := by decide +kernel
theorem d_Row_greatestOf_15 : decode cc_Row_greatestOf 15 = .ok (.if_icmp .ge 21, 3) := by decide +kernel
theorem d_Row_greatestOf_18 : decode cc_Row_greatestOf 18 = .ok (.lload_n 3, 1) := by decide +kernel
theorem d_Row_greatestOf_19 : decode cc_Row_greatestOf 19 = .ok (.aload_n 0, 1) := by decide +kernel
theorem d_Row_greatestOf_20 : decode cc_Row_greatestOf 20 = .ok (.getfield 9, 3) := by decide +kernel
theorem d_Row_greatestOf_23 : decode cc_Row_greatestOf 23 = .ok (.iload 5, 2) := by decide +kernel
theorem d_Row_greatestOf_25 : decode cc_Row_greatestOf 25 = .ok (.laload, 1) := by decide +kernel
theorem d_Row_greatestOf_26 : decode cc_Row_greatestOf 26 = .ok (.invokestatic 32, 3) := by decide +kernel
theorem d_Row_greatestOf_29 : decode cc_Row_greatestOf 29 = .ok (.lstore_n 3, 1) := by decide +kernel
theorem d_Row_greatestOf_30 : decode cc_Row_greatestOf 30 = .ok (.iinc 5 1, 3) := by decide +kernel
theorem d_Row_greatestOf_33 : decode cc_Row_greatestOf 33 = .ok (.goto (-21), 3) := by decide +kernel
theorem d_Row_greatestOf_36 : decode cc_Row_greatestOf 36 = .ok (.lload_n 3, 1) := by decide +kernel
theorem d_Row_greatestOf_37 : decode cc_Row_greatestOf 37 = .ok (.lreturn, 1) := by decide +kernel
theorem d_Row_init_0 : decode cc_Row_init 0 = .ok (.aload_n 0, 1) := by decide +kernel
theorem d_Row_init_1 : decode cc_Row_init 1 = .ok (.invokespecial 3, 3) := by decide +kernel
theorem d_Row_init_4 : decode cc_Row_init 4 = .ok (.aload_n 0, 1) := by decide +kernel
theorem d_Row_init_5 : decode cc_Row_init 5 = .ok (.bipush 24, 2) := by decide +kernel
theorem d_Row_init_7 : decode cc_Row_init 7 = .ok (.newarray .long, 2) := by decide +kernel
theorem d_Row_init_9 : decode cc_Row_init 9 = .ok (.putfield 9, 3) := by decide +kernel
theorem d_Row_init_12 : decode cc_Row_init 12 = .ok (.return_, 1) := by decide +kernel
theorem d_Row_isInEighths_0 : decode cc_Row_isInEighths 0 = .ok (.aload_n 0, 1) := by decide +kernel
theorem d_Row_isInEighths_1 : decode cc_Row_isInEighths 1 = .ok (.getfield 15, 3) := by decide +kernel
theorem d_Row_isInEighths_4 : decode cc_Row_isInEighths 4 = .ok (.iconst 4, 1) := by decide +kernel
theorem d_Row_isInEighths_5 : decode cc_Row_isInEighths 5 = .ok (.if_icmp .lt 7, 3) := by decide +kernel
theorem d_Row_isInEighths_8 : decode cc_Row_isInEighths 8 = .ok (.iconst 1, 1) := by decide +kernel
theorem d_Row_isInEighths_9 : decode cc_Row_isInEighths 9 = .ok (.goto 4, 3) := by decide +kernel
theorem d_Row_isInEighths_12 : decode cc_Row_isInEighths 12 = .ok (.iconst 0, 1) := by decide +kernel
theorem d_Row_isInEighths_13 : decode cc_Row_isInEighths 13 = .ok (.ireturn, 1) := by decide +kernel
theorem d_Row_kept_0 : decode cc_Row_kept 0 = .ok (.aload_n 0, 1) := by decide +kernel
theorem d_Row_kept_1 : decode cc_Row_kept 1 = .ok (.getfield 15, 3) := by decide +kernel
theorem d_Row_kept_4 : decode cc_Row_kept 4 = .ok (.tableswitch 48 0 3 #[32, 37, 42, 46], 32) := by decide +kernel
theorem d_Row_kept_36 : decode cc_Row_kept 36 = .ok (.lload_n 1, 1) := by decide +kernel
theorem d_Row_kept_37 : decode cc_Row_kept 37 = .ok (.l2i, 1) := by decide +kernel
theorem d_Row_kept_38 : decode cc_Row_kept 38 = .ok (.i2b, 1) := by decide +kernel
theorem d_Row_kept_39 : decode cc_Row_kept 39 = .ok (.i2l, 1) := by decide +kernel
theorem d_Row_kept_40 : decode cc_Row_kept 40 = .ok (.lreturn, 1) := by decide +kernel
theorem d_Row_kept_41 : decode cc_Row_kept 41 = .ok (.lload_n 1, 1) := by decide +kernel
theorem d_Row_kept_42 : decode cc_Row_kept 42 = .ok (.l2i, 1) := by decide +kernel
theorem d_Row_kept_43 : decode cc_Row_kept 43 = .ok (.i2s, 1) := by decide +kernel
theorem d_Row_kept_44 : decode cc_Row_kept 44 = .ok (.i2l, 1) := by decide +kernel
theorem d_Row_kept_45 : decode cc_Row_kept 45 = .ok (.lreturn, 1) := by decide +kernel
theorem d_Row_kept_46 : decode cc_Row_kept 46 = .ok (.lload_n 1, 1) := by decide +kernel
theorem d_Row_kept_47 : decode cc_Row_kept 47 = .ok (.l2i, 1) := by decide +kernel
theorem d_Row_kept_48 : decode cc_Row_kept 48 = .ok (.i2l, 1) := by decide +kernel
theorem d_Row_kept_49 : decode cc_Row_kept 49 = .ok (.lreturn, 1) := by decide +kernel
theorem d_Row_kept_50 : decode cc_Row_kept 50 = .ok (.lload_n 1, 1) := by decide +kernel
theorem d_Row_kept_51 : decode cc_Row_kept 51 = .ok (.lreturn, 1) := by decide +kernel
theorem d_Row_kept_52 : decode cc_Row_kept 52 = .ok (.ldc2_w 22, 3) := by decide +kernel
theorem d_Row_kept_55 : decode cc_Row_kept 55 = .ok (.ldc2_w 24, 3) := by decide +kernel
theorem d_Row_kept_58 : decode cc_Row_kept 58 = .ok (.lload_n 1, 1) := by decide +kernel
theorem d_Row_kept_59 : decode cc_Row_kept 59 = .ok (.invokestatic 26, 3) := by decide +kernel
theorem d_Row_kept_62 : decode cc_Row_kept 62 = .ok (.invokestatic 32, 3) := by decide +kernel
theorem d_Row_kept_65 : decode cc_Row_kept 65 = .ok (.lreturn, 1) := by decide +kernel
theorem d_Row_make_0 : decode cc_Row_make 0 = .ok (.aload_n 0, 1) := by decide +kernel
theorem d_Row_make_1 : decode cc_Row_make 1 = .ok (.iload_n 1, 1) := by decide +kernel
theorem d_Row_make_2 : decode cc_Row_make 2 = .ok (.putfield 15, 3) := by decide +kernel
theorem d_Row_make_5 : decode cc_Row_make 5 = .ok (.aload_n 0, 1) := by decide +kernel
theorem d_Row_make_6 : decode cc_Row_make 6 = .ok (.iload_n 2, 1) := by decide +kernel
theorem d_Row_make_7 : decode cc_Row_make 7 = .ok (.putfield 19, 3) := by decide +kernel
theorem d_Row_make_10 : decode cc_Row_make 10 = .ok (.iconst 0, 1) := by decide +kernel
theorem d_Row_make_11 : decode cc_Row_make 11 = .ok (.istore_n 3, 1) := by decide +kernel
theorem d_Row_make_12 : decode cc_Row_make 12 = .ok (.iload_n 3, 1) := by decide +kernel
theorem d_Row_make_13 : decode cc_Row_make 13 = .ok (.bipush 24, 2) := by decide +kernel
theorem d_Row_make_15 : decode cc_Row_make 15 = .ok (.if_icmp .ge 16, 3) := by decide +kernel
theorem d_Row_make_18 : decode cc_Row_make 18 = .ok (.aload_n 0, 1) := by decide +kernel
theorem d_Row_make_19 : decode cc_Row_make 19 = .ok (.getfield 9, 3) := by decide +kernel
theorem d_Row_make_22 : decode cc_Row_make 22 = .ok (.iload_n 3, 1) := by decide +kernel
theorem d_Row_make_23 : decode cc_Row_make 23 = .ok (.lconst 0, 1) := by decide +kernel
theorem d_Row_make_24 : decode cc_Row_make 24 = .ok (.lastore, 1) := by decide +kernel
theorem d_Row_make_25 : decode cc_Row_make 25 = .ok (.iinc 3 1, 3) := by decide +kernel
theorem d_Row_make_28 : decode cc_Row_make 28 = .ok (.goto (-16), 3) := by decide +kernel
theorem d_Row_make_31 : decode cc_Row_make 31 = .ok (.return_, 1) := by decide +kernel
theorem d_Row_mapAll_0 : decode cc_Row_mapAll 0 = .ok (.aload_n 0, 1) := by decide +kernel
theorem d_Row_mapAll_1 : decode cc_Row_mapAll 1 = .ok (.invokevirtual 39, 3) := by decide +kernel
theorem d_Row_mapAll_4 : decode cc_Row_mapAll 4 = .ok (.ifCond .eq 12, 3) := by decide +kernel
theorem d_Row_mapAll_7 : decode cc_Row_mapAll 7 = .ok (.lload 5, 2) := by decide +kernel
theorem d_Row_mapAll_9 : decode cc_Row_mapAll 9 = .ok (.ldc2_w 43, 3) := by decide +kernel
theorem d_Row_mapAll_12 : decode cc_Row_mapAll 12 = .ok (.lmul, 1) := by decide +kernel
theorem d_Row_mapAll_13 : decode cc_Row_mapAll 13 = .ok (.goto 5, 3) := by decide +kernel
theorem d_Row_mapAll_16 : decode cc_Row_mapAll 16 = .ok (.lload 5, 2) := by decide +kernel
theorem d_Row_mapAll_18 : decode cc_Row_mapAll 18 = .ok (.lstore 7, 2) := by decide +kernel
theorem d_Row_mapAll_20 : decode cc_Row_mapAll 20 = .ok (.iload_n 1, 1) := by decide +kernel
theorem d_Row_mapAll_21 : decode cc_Row_mapAll 21 = .ok (.istore 9, 2) := by decide +kernel
theorem d_Row_mapAll_23 : decode cc_Row_mapAll 23 = .ok (.iload 9, 2) := by decide +kernel
theorem d_Row_mapAll_25 : decode cc_Row_mapAll 25 = .ok (.iload_n 2, 1) := by decide +kernel
theorem d_Row_mapAll_26 : decode cc_Row_mapAll 26 = .ok (.if_icmp .ge 32, 3) := by decide +kernel
theorem d_Row_mapAll_29 : decode cc_Row_mapAll 29 = .ok (.aload_n 0, 1) := by decide +kernel
theorem d_Row_mapAll_30 : decode cc_Row_mapAll 30 = .ok (.getfield 9, 3) := by decide +kernel
theorem d_Row_mapAll_33 : decode cc_Row_mapAll 33 = .ok (.iload 9, 2) := by decide +kernel
theorem d_Row_mapAll_35 : decode cc_Row_mapAll 35 = .ok (.aload_n 0, 1) := by decide +kernel
theorem d_Row_mapAll_36 : decode cc_Row_mapAll 36 = .ok (.lload_n 3, 1) := by decide +kernel
theorem d_Row_mapAll_37 : decode cc_Row_mapAll 37 = .ok (.aload_n 0, 1) := by decide +kernel
theorem d_Row_mapAll_38 : decode cc_Row_mapAll 38 = .ok (.getfield 9, 3) := by decide +kernel
theorem d_Row_mapAll_41 : decode cc_Row_mapAll 41 = .ok (.iload 9, 2) := by decide +kernel
theorem d_Row_mapAll_43 : decode cc_Row_mapAll 43 = .ok (.laload, 1) := by decide +kernel
theorem d_Row_mapAll_44 : decode cc_Row_mapAll 44 = .ok (.lmul, 1) := by decide +kernel
theorem d_Row_mapAll_45 : decode cc_Row_mapAll 45 = .ok (.lload 7, 2) := by decide +kernel
theorem d_Row_mapAll_47 : decode cc_Row_mapAll 47 = .ok (.ladd, 1) := by decide +kernel
theorem d_Row_mapAll_48 : decode cc_Row_mapAll 48 = .ok (.invokevirtual 35, 3) := by decide +kernel
theorem d_Row_mapAll_51 : decode cc_Row_mapAll 51 = .ok (.lastore, 1) := by decide +kernel
theorem d_Row_mapAll_52 : decode cc_Row_mapAll 52 = .ok (.iinc 9 1, 3) := by decide +kernel
theorem d_Row_mapAll_55 : decode cc_Row_mapAll 55 = .ok (.goto (-32), 3) := by decide +kernel
theorem d_Row_mapAll_58 : decode cc_Row_mapAll 58 = .ok (.return_, 1) := by decide +kernel
theorem d_Row_putInOrder_0 : decode cc_Row_putInOrder 0 = .ok (.iload_n 1, 1) := by decide +kernel
theorem d_Row_putInOrder_1 : decode cc_Row_putInOrder 1 = .ok (.iconst 1, 1) := by decide +kernel
theorem d_Row_putInOrder_2 : decode cc_Row_putInOrder 2 = .ok (.iadd, 1) := by decide +kernel
theorem d_Row_putInOrder_3 : decode cc_Row_putInOrder 3 = .ok (.istore_n 3, 1) := by decide +kernel
theorem d_Row_putInOrder_4 : decode cc_Row_putInOrder 4 = .ok (.iload_n 3, 1) := by decide +kernel
theorem d_Row_putInOrder_5 : decode cc_Row_putInOrder 5 = .ok (.iload_n 2, 1) := by decide +kernel
theorem d_Row_putInOrder_6 : decode cc_Row_putInOrder 6 = .ok (.if_icmp .ge 72, 3) := by decide +kernel
theorem d_Row_putInOrder_9 : decode cc_Row_putInOrder 9 = .ok (.aload_n 0, 1) := by decide +kernel
theorem d_Row_putInOrder_10 : decode cc_Row_putInOrder 10 = .ok (.getfield 9, 3) := by decide +kernel
theorem d_Row_putInOrder_13 : decode cc_Row_putInOrder 13 = .ok (.iload_n 3, 1) := by decide +kernel
theorem d_Row_putInOrder_14 : decode cc_Row_putInOrder 14 = .ok (.laload, 1) := by decide +kernel
theorem d_Row_putInOrder_15 : decode cc_Row_putInOrder 15 = .ok (.lstore 4, 2) := by decide +kernel
theorem d_Row_putInOrder_17 : decode cc_Row_putInOrder 17 = .ok (.iload_n 3, 1) := by decide +kernel
theorem d_Row_putInOrder_18 : decode cc_Row_putInOrder 18 = .ok (.istore 6, 2) := by decide +kernel
theorem d_Row_putInOrder_20 : decode cc_Row_putInOrder 20 = .ok (.iload 6, 2) := by decide +kernel
theorem d_Row_putInOrder_22 : decode cc_Row_putInOrder 22 = .ok (.iload_n 1, 1) := by decide +kernel
theorem d_Row_putInOrder_23 : decode cc_Row_putInOrder 23 = .ok (.if_icmp .le 40, 3) := by decide +kernel
theorem d_Row_putInOrder_26 : decode cc_Row_putInOrder 26 = .ok (.aload_n 0, 1) := by decide +kernel
theorem d_Row_putInOrder_27 : decode cc_Row_putInOrder 27 = .ok (.getfield 9, 3) := by decide +kernel
theorem d_Row_putInOrder_30 : decode cc_Row_putInOrder 30 = .ok (.iload 6, 2) := by decide +kernel
theorem d_Row_putInOrder_32 : decode cc_Row_putInOrder 32 = .ok (.iconst 1, 1) := by decide +kernel
theorem d_Row_putInOrder_33 : decode cc_Row_putInOrder 33 = .ok (.isub, 1) := by decide +kernel
theorem d_Row_putInOrder_34 : decode cc_Row_putInOrder 34 = .ok (.laload, 1) := by decide +kernel
theorem d_Row_putInOrder_35 : decode cc_Row_putInOrder 35 = .ok (.lload 4, 2) := by decide +kernel
theorem d_Row_putInOrder_37 : decode cc_Row_putInOrder 37 = .ok (.lcmp, 1) := by decide +kernel
theorem d_Row_putInOrder_38 : decode cc_Row_putInOrder 38 = .ok (.ifCond .le 25, 3) := by decide +kernel
theorem d_Row_putInOrder_41 : decode cc_Row_putInOrder 41 = .ok (.aload_n 0, 1) := by decide +kernel
theorem d_Row_putInOrder_42 : decode cc_Row_putInOrder 42 = .ok (.getfield 9, 3) := by decide +kernel
theorem d_Row_putInOrder_45 : decode cc_Row_putInOrder 45 = .ok (.iload 6, 2) := by decide +kernel
theorem d_Row_putInOrder_47 : decode cc_Row_putInOrder 47 = .ok (.aload_n 0, 1) := by decide +kernel
theorem d_Row_putInOrder_48 : decode cc_Row_putInOrder 48 = .ok (.getfield 9, 3) := by decide +kernel
theorem d_Row_putInOrder_51 : decode cc_Row_putInOrder 51 = .ok (.iload 6, 2) := by decide +kernel
theorem d_Row_putInOrder_53 : decode cc_Row_putInOrder 53 = .ok (.iconst 1, 1) := by decide +kernel
theorem d_Row_putInOrder_54 : decode cc_Row_putInOrder 54 = .ok (.isub, 1) := by decide +kernel
theorem d_Row_putInOrder_55 : decode cc_Row_putInOrder 55 = .ok (.laload, 1) := by decide +kernel
theorem d_Row_putInOrder_56 : decode cc_Row_putInOrder 56 = .ok (.lastore, 1) := by decide +kernel
theorem d_Row_putInOrder_57 : decode cc_Row_putInOrder 57 = .ok (.iinc 6 (-1), 3) := by decide +kernel
theorem d_Row_putInOrder_60 : decode cc_Row_putInOrder 60 = .ok (.goto (-40), 3) := by decide +kernel
theorem d_Row_putInOrder_63 : decode cc_Row_putInOrder 63 = .ok (.aload_n 0, 1) := by decide +kernel
theorem d_Row_putInOrder_64 : decode cc_Row_putInOrder 64 = .ok (.getfield 9, 3) := by decide +kernel
theorem d_Row_putInOrder_67 : decode cc_Row_putInOrder 67 = .ok (.iload 6, 2) := by decide +kernel
theorem d_Row_putInOrder_69 : decode cc_Row_putInOrder 69 = .ok (.lload 4, 2) := by decide +kernel
theorem d_Row_putInOrder_71 : decode cc_Row_putInOrder 71 = .ok (.lastore, 1) := by decide +kernel
theorem d_Row_putInOrder_72 : decode cc_Row_putInOrder 72 = .ok (.iinc 3 1, 3) := by decide +kernel
theorem d_Row_putInOrder_75 : decode cc_Row_putInOrder 75 = .ok (.goto (-71), 3) := by decide +kernel
theorem d_Row_putInOrder_78 : decode cc_Row_putInOrder 78 = .ok (.return_, 1) := by decide +kernel
theorem d_Row_shareAll_0 : decode cc_Row_shareAll 0 = .ok (.lload_n 3, 1) := by decide +kernel
theorem d_Row_shareAll_1 : decode cc_Row_shareAll 1 = .ok (.ldc2_w 43, 3) := by decide +kernel
theorem d_Row_shareAll_4 : decode cc_Row_shareAll 4 = .ok (.lmul, 1) := by decide +kernel
theorem d_Row_shareAll_5 : decode cc_Row_shareAll 5 = .ok (.ldc2_w 43, 3) := by decide +kernel
theorem d_Row_shareAll_8 : decode cc_Row_shareAll 8 = .ok (.lmul, 1) := by decide +kernel
theorem d_Row_shareAll_9 : decode cc_Row_shareAll 9 = .ok (.lstore 5, 2) := by decide +kernel
theorem d_Row_shareAll_11 : decode cc_Row_shareAll 11 = .ok (.iload_n 1, 1) := by decide +kernel
theorem d_Row_shareAll_12 : decode cc_Row_shareAll 12 = .ok (.istore 7, 2) := by decide +kernel
theorem d_Row_shareAll_14 : decode cc_Row_shareAll 14 = .ok (.iload 7, 2) := by decide +kernel
theorem d_Row_shareAll_16 : decode cc_Row_shareAll 16 = .ok (.iload_n 2, 1) := by decide +kernel
theorem d_Row_shareAll_17 : decode cc_Row_shareAll 17 = .ok (.if_icmp .ge 60, 3) := by decide +kernel
theorem d_Row_shareAll_20 : decode cc_Row_shareAll 20 = .ok (.aload_n 0, 1) := by decide +kernel
theorem d_Row_shareAll_21 : decode cc_Row_shareAll 21 = .ok (.getfield 9, 3) := by decide +kernel
theorem d_Row_shareAll_24 : decode cc_Row_shareAll 24 = .ok (.iload 7, 2) := by decide +kernel
theorem d_Row_shareAll_26 : decode cc_Row_shareAll 26 = .ok (.laload, 1) := by decide +kernel
theorem d_Row_shareAll_27 : decode cc_Row_shareAll 27 = .ok (.lstore 8, 2) := by decide +kernel
theorem d_Row_shareAll_29 : decode cc_Row_shareAll 29 = .ok (.lload 8, 2) := by decide +kernel
theorem d_Row_shareAll_31 : decode cc_Row_shareAll 31 = .ok (.lconst 0, 1) := by decide +kernel
theorem d_Row_shareAll_32 : decode cc_Row_shareAll 32 = .ok (.lcmp, 1) := by decide +kernel
theorem d_Row_shareAll_33 : decode cc_Row_shareAll 33 = .ok (.ifCond .ne 6, 3) := by decide +kernel
theorem d_Row_shareAll_36 : decode cc_Row_shareAll 36 = .ok (.iload 7, 2) := by decide +kernel
theorem d_Row_shareAll_38 : decode cc_Row_shareAll 38 = .ok (.ireturn, 1) := by decide +kernel
theorem d_Row_shareAll_39 : decode cc_Row_shareAll 39 = .ok (.aload_n 0, 1) := by decide +kernel
theorem d_Row_shareAll_40 : decode cc_Row_shareAll 40 = .ok (.getfield 9, 3) := by decide +kernel
theorem d_Row_shareAll_43 : decode cc_Row_shareAll 43 = .ok (.iload 7, 2) := by decide +kernel
theorem d_Row_shareAll_45 : decode cc_Row_shareAll 45 = .ok (.aload_n 0, 1) := by decide +kernel
theorem d_Row_shareAll_46 : decode cc_Row_shareAll 46 = .ok (.aload_n 0, 1) := by decide +kernel
theorem d_Row_shareAll_47 : decode cc_Row_shareAll 47 = .ok (.invokevirtual 39, 3) := by decide +kernel
theorem d_Row_shareAll_50 : decode cc_Row_shareAll 50 = .ok (.ifCond .eq 13, 3) := by decide +kernel
theorem d_Row_shareAll_53 : decode cc_Row_shareAll 53 = .ok (.lload 5, 2) := by decide +kernel
theorem d_Row_shareAll_55 : decode cc_Row_shareAll 55 = .ok (.lload 8, 2) := by decide +kernel
theorem d_Row_shareAll_57 : decode cc_Row_shareAll 57 = .ok (.invokestatic 45, 3) := by decide +kernel
theorem d_Row_shareAll_60 : decode cc_Row_shareAll 60 = .ok (.goto 7, 3) := by decide +kernel
theorem d_Row_shareAll_63 : decode cc_Row_shareAll 63 = .ok (.lload_n 3, 1) := by decide +kernel
theorem d_Row_shareAll_64 : decode cc_Row_shareAll 64 = .ok (.lload 8, 2) := by decide +kernel
theorem d_Row_shareAll_66 : decode cc_Row_shareAll 66 = .ok (.ldiv, 1) := by decide +kernel
theorem d_Row_shareAll_67 : decode cc_Row_shareAll 67 = .ok (.invokevirtual 35, 3) := by decide +kernel
theorem d_Row_shareAll_70 : decode cc_Row_shareAll 70 = .ok (.lastore, 1) := by decide +kernel
theorem d_Row_shareAll_71 : decode cc_Row_shareAll 71 = .ok (.iinc 7 1, 3) := by decide +kernel
theorem d_Row_shareAll_74 : decode cc_Row_shareAll 74 = .ok (.goto (-60), 3) := by decide +kernel
theorem d_Row_shareAll_77 : decode cc_Row_shareAll 77 = .ok (.iconst (-1), 1) := by decide +kernel
theorem d_Row_shareAll_78 : decode cc_Row_shareAll 78 = .ok (.ireturn, 1) := by decide +kernel
theorem d_Row_sumOf_0 : decode cc_Row_sumOf 0 = .ok (.lconst 0, 1) := by decide +kernel
theorem d_Row_sumOf_1 : decode cc_Row_sumOf 1 = .ok (.lstore_n 3, 1) := by decide +kernel
theorem d_Row_sumOf_2 : decode cc_Row_sumOf 2 = .ok (.iload_n 1, 1) := by decide +kernel
theorem d_Row_sumOf_3 : decode cc_Row_sumOf 3 = .ok (.istore 5, 2) := by decide +kernel
theorem d_Row_sumOf_5 : decode cc_Row_sumOf 5 = .ok (.iload 5, 2) := by decide +kernel
theorem d_Row_sumOf_7 : decode cc_Row_sumOf 7 = .ok (.iload_n 2, 1) := by decide +kernel
theorem d_Row_sumOf_8 : decode cc_Row_sumOf 8 = .ok (.if_icmp .ge 23, 3) := by decide +kernel
theorem d_Row_sumOf_11 : decode cc_Row_sumOf 11 = .ok (.aload_n 0, 1) := by decide +kernel
theorem d_Row_sumOf_12 : decode cc_Row_sumOf 12 = .ok (.lload_n 3, 1) := by decide +kernel
theorem d_Row_sumOf_13 : decode cc_Row_sumOf 13 = .ok (.aload_n 0, 1) := by decide +kernel
theorem d_Row_sumOf_14 : decode cc_Row_sumOf 14 = .ok (.getfield 9, 3) := by decide +kernel
theorem d_Row_sumOf_17 : decode cc_Row_sumOf 17 = .ok (.iload 5, 2) := by decide +kernel
theorem d_Row_sumOf_19 : decode cc_Row_sumOf 19 = .ok (.laload, 1) := by decide +kernel
theorem d_Row_sumOf_20 : decode cc_Row_sumOf 20 = .ok (.ladd, 1) := by decide +kernel
theorem d_Row_sumOf_21 : decode cc_Row_sumOf 21 = .ok (.invokevirtual 35, 3) := by decide +kernel
theorem d_Row_sumOf_24 : decode cc_Row_sumOf 24 = .ok (.lstore_n 3, 1) := by decide +kernel
theorem d_Row_sumOf_25 : decode cc_Row_sumOf 25 = .ok (.iinc 5 1, 3) := by decide +kernel
theorem d_Row_sumOf_28 : decode cc_Row_sumOf 28 = .ok (.goto (-23), 3) := by decide +kernel
theorem d_Row_sumOf_31 : decode cc_Row_sumOf 31 = .ok (.lload_n 3, 1) := by decide +kernel
theorem d_Row_sumOf_32 : decode cc_Row_sumOf 32 = .ok (.lreturn, 1) := by decide +kernel
theorem d_Task_fork_0 : decode cc_Task_fork 0 = .ok (.aload_n 0, 1) := by decide +kernel
theorem d_Task_fork_1 : decode cc_Task_fork 1 = .ok (.invokevirtual 30, 3) := by decide +kernel
theorem d_Task_fork_4 : decode cc_Task_fork 4 = .ok (.ifCond .eq 46, 3) := by decide +kernel
end
section
theorem d_Task_fork_7 : decode cc_Task_fork 7 = .ok (.aload_n 0, 1) := by decide +kernel
theorem d_Task_fork_8 : decode cc_Task_fork 8 = .ok (.getfield 24, 3) := by decide +kernel
theorem d_Task_fork_11 : decode cc_Task_fork 11 = .ok (.aload_n 0, 1) := by decide +kernel
theorem d_Task_fork_12 : decode cc_Task_fork 12 = .ok (.getfield 34, 3) := by decide +kernel
theorem d_Task_fork_15 : decode cc_Task_fork 15 = .ok (.putfield 34, 3) := by decide +kernel
theorem d_Task_fork_18 : decode cc_Task_fork 18 = .ok (.aload_n 0, 1) := by decide +kernel
theorem d_Task_fork_19 : decode cc_Task_fork 19 = .ok (.getfield 27, 3) := by decide +kernel
theorem d_Task_fork_22 : decode cc_Task_fork 22 = .ok (.aload_n 0, 1) := by decide +kernel
theorem d_Task_fork_23 : decode cc_Task_fork 23 = .ok (.getfield 7, 3) := by decide +kernel
theorem d_Task_fork_26 : decode cc_Task_fork 26 = .ok (.getfield 38, 3) := by decide +kernel
theorem d_Task_fork_29 : decode cc_Task_fork 29 = .ok (.aload_n 0, 1) := by decide +kernel
theorem d_Task_fork_30 : decode cc_Task_fork 30 = .ok (.getfield 34, 3) := by decide +kernel
theorem d_Task_fork_33 : decode cc_Task_fork 33 = .ok (.aload_n 0, 1) := by decide +kernel
theorem d_Task_fork_34 : decode cc_Task_fork 34 = .ok (.getfield 24, 3) := by decide +kernel
theorem d_Task_fork_37 : decode cc_Task_fork 37 = .ok (.getfield 44, 3) := by decide +kernel
theorem d_Task_fork_40 : decode cc_Task_fork 40 = .ok (.ladd, 1) := by decide +kernel
theorem d_Task_fork_41 : decode cc_Task_fork 41 = .ok (.invokevirtual 47, 3) := by decide +kernel
theorem d_Task_fork_44 : decode cc_Task_fork 44 = .ok (.putfield 34, 3) := by decide +kernel
theorem d_Task_fork_47 : decode cc_Task_fork 47 = .ok (.goto 57, 3) := by decide +kernel
theorem d_Task_fork_50 : decode cc_Task_fork 50 = .ok (.aload_n 0, 1) := by decide +kernel
theorem d_Task_fork_51 : decode cc_Task_fork 51 = .ok (.getfield 17, 3) := by decide +kernel
theorem d_Task_fork_54 : decode cc_Task_fork 54 = .ok (.aload_n 0, 1) := by decide +kernel
theorem d_Task_fork_55 : decode cc_Task_fork 55 = .ok (.getfield 21, 3) := by decide +kernel
theorem d_Task_fork_58 : decode cc_Task_fork 58 = .ok (.iadd, 1) := by decide +kernel
theorem d_Task_fork_59 : decode cc_Task_fork 59 = .ok (.iconst 2, 1) := by decide +kernel
theorem d_Task_fork_60 : decode cc_Task_fork 60 = .ok (.idiv, 1) := by decide +kernel
theorem d_Task_fork_61 : decode cc_Task_fork 61 = .ok (.istore_n 1, 1) := by decide +kernel
theorem d_Task_fork_62 : decode cc_Task_fork 62 = .ok (.aload_n 0, 1) := by decide +kernel
theorem d_Task_fork_63 : decode cc_Task_fork 63 = .ok (.new 8, 3) := by decide +kernel
theorem d_Task_fork_66 : decode cc_Task_fork 66 = .ok (.dup, 1) := by decide +kernel
theorem d_Task_fork_67 : decode cc_Task_fork 67 = .ok (.aload_n 0, 1) := by decide +kernel
theorem d_Task_fork_68 : decode cc_Task_fork 68 = .ok (.getfield 7, 3) := by decide +kernel
theorem d_Task_fork_71 : decode cc_Task_fork 71 = .ok (.aload_n 0, 1) := by decide +kernel
theorem d_Task_fork_72 : decode cc_Task_fork 72 = .ok (.aload_n 0, 1) := by decide +kernel
theorem d_Task_fork_73 : decode cc_Task_fork 73 = .ok (.getfield 17, 3) := by decide +kernel
theorem d_Task_fork_76 : decode cc_Task_fork 76 = .ok (.iload_n 1, 1) := by decide +kernel
theorem d_Task_fork_77 : decode cc_Task_fork 77 = .ok (.invokespecial 53, 3) := by decide +kernel
theorem d_Task_fork_80 : decode cc_Task_fork 80 = .ok (.putfield 24, 3) := by decide +kernel
theorem d_Task_fork_83 : decode cc_Task_fork 83 = .ok (.aload_n 0, 1) := by decide +kernel
theorem d_Task_fork_84 : decode cc_Task_fork 84 = .ok (.new 8, 3) := by decide +kernel
theorem d_Task_fork_87 : decode cc_Task_fork 87 = .ok (.dup, 1) := by decide +kernel
theorem d_Task_fork_88 : decode cc_Task_fork 88 = .ok (.aload_n 0, 1) := by decide +kernel
theorem d_Task_fork_89 : decode cc_Task_fork 89 = .ok (.getfield 7, 3) := by decide +kernel
theorem d_Task_fork_92 : decode cc_Task_fork 92 = .ok (.aload_n 0, 1) := by decide +kernel
theorem d_Task_fork_93 : decode cc_Task_fork 93 = .ok (.iload_n 1, 1) := by decide +kernel
theorem d_Task_fork_94 : decode cc_Task_fork 94 = .ok (.aload_n 0, 1) := by decide +kernel
theorem d_Task_fork_95 : decode cc_Task_fork 95 = .ok (.getfield 21, 3) := by decide +kernel
theorem d_Task_fork_98 : decode cc_Task_fork 98 = .ok (.invokespecial 53, 3) := by decide +kernel
theorem d_Task_fork_101 : decode cc_Task_fork 101 = .ok (.putfield 27, 3) := by decide +kernel
theorem d_Task_fork_104 : decode cc_Task_fork 104 = .ok (.aload_n 0, 1) := by decide +kernel
theorem d_Task_fork_105 : decode cc_Task_fork 105 = .ok (.iconst 2, 1) := by decide +kernel
theorem d_Task_fork_106 : decode cc_Task_fork 106 = .ok (.putfield 56, 3) := by decide +kernel
theorem d_Task_fork_109 : decode cc_Task_fork 109 = .ok (.return_, 1) := by decide +kernel
theorem d_Task_hasForked_0 : decode cc_Task_hasForked 0 = .ok (.aload_n 0, 1) := by decide +kernel
theorem d_Task_hasForked_1 : decode cc_Task_hasForked 1 = .ok (.getfield 24, 3) := by decide +kernel
theorem d_Task_hasForked_4 : decode cc_Task_hasForked 4 = .ok (.ifnull 14, 3) := by decide +kernel
theorem d_Task_hasForked_7 : decode cc_Task_hasForked 7 = .ok (.aload_n 0, 1) := by decide +kernel
theorem d_Task_hasForked_8 : decode cc_Task_hasForked 8 = .ok (.getfield 27, 3) := by decide +kernel
theorem d_Task_hasForked_11 : decode cc_Task_hasForked 11 = .ok (.ifnull 7, 3) := by decide +kernel
theorem d_Task_hasForked_14 : decode cc_Task_hasForked 14 = .ok (.iconst 1, 1) := by decide +kernel
theorem d_Task_hasForked_15 : decode cc_Task_hasForked 15 = .ok (.goto 4, 3) := by decide +kernel
theorem d_Task_hasForked_18 : decode cc_Task_hasForked 18 = .ok (.iconst 0, 1) := by decide +kernel
theorem d_Task_hasForked_19 : decode cc_Task_hasForked 19 = .ok (.ireturn, 1) := by decide +kernel
theorem d_Task_init_0 : decode cc_Task_init 0 = .ok (.aload_n 0, 1) := by decide +kernel
theorem d_Task_init_1 : decode cc_Task_init 1 = .ok (.invokespecial 1, 3) := by decide +kernel
theorem d_Task_init_4 : decode cc_Task_init 4 = .ok (.aload_n 0, 1) := by decide +kernel
theorem d_Task_init_5 : decode cc_Task_init 5 = .ok (.aload_n 1, 1) := by decide +kernel
theorem d_Task_init_6 : decode cc_Task_init 6 = .ok (.putfield 7, 3) := by decide +kernel
theorem d_Task_init_9 : decode cc_Task_init 9 = .ok (.aload_n 0, 1) := by decide +kernel
theorem d_Task_init_10 : decode cc_Task_init 10 = .ok (.aload_n 2, 1) := by decide +kernel
theorem d_Task_init_11 : decode cc_Task_init 11 = .ok (.putfield 13, 3) := by decide +kernel
theorem d_Task_init_14 : decode cc_Task_init 14 = .ok (.aload_n 0, 1) := by decide +kernel
theorem d_Task_init_15 : decode cc_Task_init 15 = .ok (.iload_n 3, 1) := by decide +kernel
theorem d_Task_init_16 : decode cc_Task_init 16 = .ok (.putfield 17, 3) := by decide +kernel
theorem d_Task_init_19 : decode cc_Task_init 19 = .ok (.aload_n 0, 1) := by decide +kernel
theorem d_Task_init_20 : decode cc_Task_init 20 = .ok (.iload 4, 2) := by decide +kernel
theorem d_Task_init_22 : decode cc_Task_init 22 = .ok (.putfield 21, 3) := by decide +kernel
theorem d_Task_init_25 : decode cc_Task_init 25 = .ok (.return_, 1) := by decide +kernel
theorem d_Wk_dropTasks_0 : decode cc_Wk_dropTasks 0 = .ok (.aload_n 0, 1) := by decide +kernel
theorem d_Wk_dropTasks_1 : decode cc_Wk_dropTasks 1 = .ok (.getfield 10, 3) := by decide +kernel
theorem d_Wk_dropTasks_4 : decode cc_Wk_dropTasks 4 = .ok (.invokevirtual 20, 3) := by decide +kernel
theorem d_Wk_dropTasks_7 : decode cc_Wk_dropTasks 7 = .ok (.iconst 1, 1) := by decide +kernel
theorem d_Wk_dropTasks_8 : decode cc_Wk_dropTasks 8 = .ok (.isub, 1) := by decide +kernel
theorem d_Wk_dropTasks_9 : decode cc_Wk_dropTasks 9 = .ok (.istore_n 2, 1) := by decide +kernel
theorem d_Wk_dropTasks_10 : decode cc_Wk_dropTasks 10 = .ok (.iload_n 2, 1) := by decide +kernel
theorem d_Wk_dropTasks_11 : decode cc_Wk_dropTasks 11 = .ok (.ifCond .lt 36, 3) := by decide +kernel
theorem d_Wk_dropTasks_14 : decode cc_Wk_dropTasks 14 = .ok (.aload_n 0, 1) := by decide +kernel
theorem d_Wk_dropTasks_15 : decode cc_Wk_dropTasks 15 = .ok (.getfield 10, 3) := by decide +kernel
theorem d_Wk_dropTasks_18 : decode cc_Wk_dropTasks 18 = .ok (.iload_n 2, 1) := by decide +kernel
theorem d_Wk_dropTasks_19 : decode cc_Wk_dropTasks 19 = .ok (.invokevirtual 34, 3) := by decide +kernel
theorem d_Wk_dropTasks_22 : decode cc_Wk_dropTasks 22 = .ok (.checkcast 32, 3) := by decide +kernel
theorem d_Wk_dropTasks_25 : decode cc_Wk_dropTasks 25 = .ok (.getfield 37, 3) := by decide +kernel
theorem d_Wk_dropTasks_28 : decode cc_Wk_dropTasks 28 = .ok (.aload_n 1, 1) := by decide +kernel
theorem d_Wk_dropTasks_29 : decode cc_Wk_dropTasks 29 = .ok (.if_acmp .ne 12, 3) := by decide +kernel
theorem d_Wk_dropTasks_32 : decode cc_Wk_dropTasks 32 = .ok (.aload_n 0, 1) := by decide +kernel
theorem d_Wk_dropTasks_33 : decode cc_Wk_dropTasks 33 = .ok (.getfield 10, 3) := by decide +kernel
theorem d_Wk_dropTasks_36 : decode cc_Wk_dropTasks 36 = .ok (.iload_n 2, 1) := by decide +kernel
theorem d_Wk_dropTasks_37 : decode cc_Wk_dropTasks 37 = .ok (.invokevirtual 28, 3) := by decide +kernel
theorem d_Wk_dropTasks_40 : decode cc_Wk_dropTasks 40 = .ok (.pop, 1) := by decide +kernel
theorem d_Wk_dropTasks_41 : decode cc_Wk_dropTasks 41 = .ok (.iinc 2 (-1), 3) := by decide +kernel
theorem d_Wk_dropTasks_44 : decode cc_Wk_dropTasks 44 = .ok (.goto (-34), 3) := by decide +kernel
theorem d_Wk_dropTasks_47 : decode cc_Wk_dropTasks 47 = .ok (.return_, 1) := by decide +kernel
theorem d_Wk_fromTop_0 : decode cc_Wk_fromTop 0 = .ok (.aload_n 0, 1) := by decide +kernel
theorem d_Wk_fromTop_1 : decode cc_Wk_fromTop 1 = .ok (.getfield 10, 3) := by decide +kernel
theorem d_Wk_fromTop_4 : decode cc_Wk_fromTop 4 = .ok (.aload_n 0, 1) := by decide +kernel
theorem d_Wk_fromTop_5 : decode cc_Wk_fromTop 5 = .ok (.getfield 10, 3) := by decide +kernel
theorem d_Wk_fromTop_8 : decode cc_Wk_fromTop 8 = .ok (.invokevirtual 20, 3) := by decide +kernel
theorem d_Wk_fromTop_11 : decode cc_Wk_fromTop 11 = .ok (.iconst 1, 1) := by decide +kernel
theorem d_Wk_fromTop_12 : decode cc_Wk_fromTop 12 = .ok (.isub, 1) := by decide +kernel
theorem d_Wk_fromTop_13 : decode cc_Wk_fromTop 13 = .ok (.iload_n 1, 1) := by decide +kernel
theorem d_Wk_fromTop_14 : decode cc_Wk_fromTop 14 = .ok (.isub, 1) := by decide +kernel
theorem d_Wk_fromTop_15 : decode cc_Wk_fromTop 15 = .ok (.invokevirtual 34, 3) := by decide +kernel
theorem d_Wk_fromTop_18 : decode cc_Wk_fromTop 18 = .ok (.checkcast 32, 3) := by decide +kernel
theorem d_Wk_fromTop_21 : decode cc_Wk_fromTop 21 = .ok (.areturn, 1) := by decide +kernel
theorem d_Wk_init_0 : decode cc_Wk_init 0 = .ok (.aload_n 0, 1) := by decide +kernel
theorem d_Wk_init_1 : decode cc_Wk_init 1 = .ok (.invokespecial 1, 3) := by decide +kernel
theorem d_Wk_init_4 : decode cc_Wk_init 4 = .ok (.aload_n 0, 1) := by decide +kernel
theorem d_Wk_init_5 : decode cc_Wk_init 5 = .ok (.new 7, 3) := by decide +kernel
theorem d_Wk_init_8 : decode cc_Wk_init 8 = .ok (.dup, 1) := by decide +kernel
theorem d_Wk_init_9 : decode cc_Wk_init 9 = .ok (.invokespecial 9, 3) := by decide +kernel
theorem d_Wk_init_12 : decode cc_Wk_init 12 = .ok (.putfield 10, 3) := by decide +kernel
theorem d_Wk_init_15 : decode cc_Wk_init 15 = .ok (.aload_n 0, 1) := by decide +kernel
theorem d_Wk_init_16 : decode cc_Wk_init 16 = .ok (.iload_n 1, 1) := by decide +kernel
theorem d_Wk_init_17 : decode cc_Wk_init 17 = .ok (.putfield 16, 3) := by decide +kernel
theorem d_Wk_init_20 : decode cc_Wk_init 20 = .ok (.return_, 1) := by decide +kernel
theorem d_Wk_putOnTop_0 : decode cc_Wk_putOnTop 0 = .ok (.aload_n 0, 1) := by decide +kernel
theorem d_Wk_putOnTop_1 : decode cc_Wk_putOnTop 1 = .ok (.getfield 10, 3) := by decide +kernel
theorem d_Wk_putOnTop_4 : decode cc_Wk_putOnTop 4 = .ok (.aload_n 1, 1) := by decide +kernel
theorem d_Wk_putOnTop_5 : decode cc_Wk_putOnTop 5 = .ok (.invokevirtual 24, 3) := by decide +kernel
theorem d_Wk_putOnTop_8 : decode cc_Wk_putOnTop 8 = .ok (.pop, 1) := by decide +kernel
theorem d_Wk_putOnTop_9 : decode cc_Wk_putOnTop 9 = .ok (.return_, 1) := by decide +kernel
theorem d_Wk_queueLength_0 : decode cc_Wk_queueLength 0 = .ok (.aload_n 0, 1) := by decide +kernel
theorem d_Wk_queueLength_1 : decode cc_Wk_queueLength 1 = .ok (.getfield 10, 3) := by decide +kernel
theorem d_Wk_queueLength_4 : decode cc_Wk_queueLength 4 = .ok (.invokevirtual 20, 3) := by decide +kernel
theorem d_Wk_queueLength_7 : decode cc_Wk_queueLength 7 = .ok (.ireturn, 1) := by decide +kernel
theorem d_Wk_queuedTasks_0 : decode cc_Wk_queuedTasks 0 = .ok (.iconst 0, 1) := by decide +kernel
theorem d_Wk_queuedTasks_1 : decode cc_Wk_queuedTasks 1 = .ok (.istore_n 2, 1) := by decide +kernel
theorem d_Wk_queuedTasks_2 : decode cc_Wk_queuedTasks 2 = .ok (.iconst 0, 1) := by decide +kernel
theorem d_Wk_queuedTasks_3 : decode cc_Wk_queuedTasks 3 = .ok (.istore_n 3, 1) := by decide +kernel
theorem d_Wk_queuedTasks_4 : decode cc_Wk_queuedTasks 4 = .ok (.iload_n 3, 1) := by decide +kernel
theorem d_Wk_queuedTasks_5 : decode cc_Wk_queuedTasks 5 = .ok (.aload_n 0, 1) := by decide +kernel
theorem d_Wk_queuedTasks_6 : decode cc_Wk_queuedTasks 6 = .ok (.getfield 10, 3) := by decide +kernel
theorem d_Wk_queuedTasks_9 : decode cc_Wk_queuedTasks 9 = .ok (.invokevirtual 20, 3) := by decide +kernel
theorem d_Wk_queuedTasks_12 : decode cc_Wk_queuedTasks 12 = .ok (.if_icmp .ge 30, 3) := by decide +kernel
theorem d_Wk_queuedTasks_15 : decode cc_Wk_queuedTasks 15 = .ok (.aload_n 0, 1) := by decide +kernel
theorem d_Wk_queuedTasks_16 : decode cc_Wk_queuedTasks 16 = .ok (.getfield 10, 3) := by decide +kernel
theorem d_Wk_queuedTasks_19 : decode cc_Wk_queuedTasks 19 = .ok (.iload_n 3, 1) := by decide +kernel
theorem d_Wk_queuedTasks_20 : decode cc_Wk_queuedTasks 20 = .ok (.invokevirtual 34, 3) := by decide +kernel
theorem d_Wk_queuedTasks_23 : decode cc_Wk_queuedTasks 23 = .ok (.checkcast 32, 3) := by decide +kernel
theorem d_Wk_queuedTasks_26 : decode cc_Wk_queuedTasks 26 = .ok (.getfield 37, 3) := by decide +kernel
theorem d_Wk_queuedTasks_29 : decode cc_Wk_queuedTasks 29 = .ok (.aload_n 1, 1) := by decide +kernel
theorem d_Wk_queuedTasks_30 : decode cc_Wk_queuedTasks 30 = .ok (.if_acmp .ne 6, 3) := by decide +kernel
theorem d_Wk_queuedTasks_33 : decode cc_Wk_queuedTasks 33 = .ok (.iinc 2 1, 3) := by decide +kernel
theorem d_Wk_queuedTasks_36 : decode cc_Wk_queuedTasks 36 = .ok (.iinc 3 1, 3) := by decide +kernel
theorem d_Wk_queuedTasks_39 : decode cc_Wk_queuedTasks 39 = .ok (.goto (-35), 3) := by decide +kernel
theorem d_Wk_queuedTasks_42 : decode cc_Wk_queuedTasks 42 = .ok (.iload_n 2, 1) := by decide +kernel
theorem d_Wk_queuedTasks_43 : decode cc_Wk_queuedTasks 43 = .ok (.ireturn, 1) := by decide +kernel
theorem d_Wk_takeBottom_0 : decode cc_Wk_takeBottom 0 = .ok (.aload_n 0, 1) := by decide +kernel
theorem d_Wk_takeBottom_1 : decode cc_Wk_takeBottom 1 = .ok (.getfield 10, 3) := by decide +kernel
theorem d_Wk_takeBottom_4 : decode cc_Wk_takeBottom 4 = .ok (.iconst 0, 1) := by decide +kernel
theorem d_Wk_takeBottom_5 : decode cc_Wk_takeBottom 5 = .ok (.invokevirtual 28, 3) := by decide +kernel
theorem d_Wk_takeBottom_8 : decode cc_Wk_takeBottom 8 = .ok (.checkcast 32, 3) := by decide +kernel
theorem d_Wk_takeBottom_11 : decode cc_Wk_takeBottom 11 = .ok (.areturn, 1) := by decide +kernel
theorem d_Wk_takeTop_0 : decode cc_Wk_takeTop 0 = .ok (.aload_n 0, 1) := by decide +kernel
theorem d_Wk_takeTop_1 : decode cc_Wk_takeTop 1 = .ok (.getfield 10, 3) := by decide +kernel
theorem d_Wk_takeTop_4 : decode cc_Wk_takeTop 4 = .ok (.aload_n 0, 1) := by decide +kernel
theorem d_Wk_takeTop_5 : decode cc_Wk_takeTop 5 = .ok (.getfield 10, 3) := by decide +kernel
theorem d_Wk_takeTop_8 : decode cc_Wk_takeTop 8 = .ok (.invokevirtual 20, 3) := by decide +kernel
theorem d_Wk_takeTop_11 : decode cc_Wk_takeTop 11 = .ok (.iconst 1, 1) := by decide +kernel
theorem d_Wk_takeTop_12 : decode cc_Wk_takeTop 12 = .ok (.isub, 1) := by decide +kernel
theorem d_Wk_takeTop_13 : decode cc_Wk_takeTop 13 = .ok (.invokevirtual 28, 3) := by decide +kernel
theorem d_Wk_takeTop_16 : decode cc_Wk_takeTop 16 = .ok (.checkcast 32, 3) := by decide +kernel
theorem d_Wk_takeTop_19 : decode cc_Wk_takeTop 19 = .ok (.areturn, 1) := by decide +kernel
end
section
/-! MORE ROWS: a compare of longs and its branch; ends of contracts -/
section FXM
variable {G : fxG} {d nL : Nat} {cc : ByteArray} {own nm : String} {ret : Option FieldType} {hh : List (Nat × Nat × Nat × Nat)} {x : fxX} {Q : State → Prop} {w : fxW} {pc : Nat} {ls : List (Nat × Value)} {st : List Value}
theorem zr_lif_eq (C : fxC G d cc nL own nm ret hh x) {a b : Int64} {off : Int} {tgt : Nat} (hd1 : decode cc pc = .ok (.lcmp, 1)) (hd2 : decode cc (pc + 1) = .ok (.ifCond .eq off, 3)) (ht : ((pc + 1 : Nat) : Int) + off = (tgt : Int)) (k1 : a = b → fxR G nL x Q w tgt ls st) (k2 : ¬ a = b → fxR G nL x Q w (pc + 4) ls st) : fxR G nL x Q w pc ls (.long b :: .long a :: st) := r_lcmp C hd1 (r_if_eq C hd2 ht (fun h => k1 ((lg_cmp_eq a b).mp h)) (fun h => k2 (fun q => h ((lg_cmp_eq a b).mpr q))))
theorem zr_lif_ne (C : fxC G d cc nL own nm ret hh x) {a b : Int64} {off : Int} {tgt : Nat} (hd1 : decode cc pc = .ok (.lcmp, 1)) (hd2 : decode cc (pc + 1) = .ok (.ifCond .ne off, 3)) (ht : ((pc + 1 : Nat) : Int) + off = (tgt : Int)) (k1 : ¬ a = b → fxR G nL x Q w tgt ls st) (k2 : a = b → fxR G nL x Q w (pc + 4) ls st) : fxR G nL x Q w pc ls (.long b :: .long a :: st) := r_lcmp C hd1 (r_if_ne C hd2 ht (fun h => k1 ((not_congr (lg_cmp_eq a b)).mp h)) (fun h => k2 ((lg_cmp_eq a b).mp h)))
theorem zr_lif_lt (C : fxC G d cc nL own nm ret hh x) {a b : Int64} {off : Int} {tgt : Nat} (hd1 : decode cc pc = .ok (.lcmp, 1)) (hd2 : decode cc (pc + 1) = .ok (.ifCond .lt off, 3)) (ht : ((pc + 1 : Nat) : Int) + off = (tgt : Int)) (k1 : a < b → fxR G nL x Q w tgt ls st) (k2 : ¬ a < b → fxR G nL x Q w (pc + 4) ls st) : fxR G nL x Q w pc ls (.long b :: .long a :: st) := r_lcmp C hd1 (r_if_lt C hd2 ht (fun h => k1 ((lg_cmp_lt a b).mp h)) (fun h => k2 (fun q => h ((lg_cmp_lt a b).mpr q))))
theorem zr_lif_ge (C : fxC G d cc nL own nm ret hh x) {a b : Int64} {off : Int} {tgt : Nat} (hd1 : decode cc pc = .ok (.lcmp, 1)) (hd2 : decode cc (pc + 1) = .ok (.ifCond .ge off, 3)) (ht : ((pc + 1 : Nat) : Int) + off = (tgt : Int)) (k1 : b ≤ a → fxR G nL x Q w tgt ls st) (k2 : ¬ b ≤ a → fxR G nL x Q w (pc + 4) ls st) : fxR G nL x Q w pc ls (.long b :: .long a :: st) := r_lcmp C hd1 (r_if_ge C hd2 ht (fun h => k1 ((lg_cmp_ge a b).mp h)) (fun h => k2 (fun q => h ((lg_cmp_ge a b).mpr q))))
theorem zr_lif_gt (C : fxC G d cc nL own nm ret hh x) {a b : Int64} {off : Int} {tgt : Nat} (hd1 : decode cc pc = .ok (.lcmp, 1)) (hd2 : decode cc (pc + 1) = .ok (.ifCond .gt off, 3)) (ht : ((pc + 1 : Nat) : Int) + off = (tgt : Int)) (k1 : b < a → fxR G nL x Q w tgt ls st) (k2 : ¬ b < a → fxR G nL x Q w (pc + 4) ls st) : fxR G nL x Q w pc ls (.long b :: .long a :: st) := r_lcmp C hd1 (r_if_gt C hd2 ht (fun h => k1 ((lg_cmp_gt a b).mp h)) (fun h => k2 (fun q => h ((lg_cmp_gt a b).mpr q))))
theorem zr_lif_le (C : fxC G d cc nL own nm ret hh x) {a b : Int64} {off : Int} {tgt : Nat} (hd1 : decode cc pc = .ok (.lcmp, 1)) (hd2 : decode cc (pc + 1) = .ok (.ifCond .le off, 3)) (ht : ((pc + 1 : Nat) : Int) + off = (tgt : Int)) (k1 : a ≤ b → fxR G nL x Q w tgt ls st) (k2 : ¬ a ≤ b → fxR G nL x Q w (pc + 4) ls st) : fxR G nL x Q w pc ls (.long b :: .long a :: st) := r_lcmp C hd1 (r_if_le C hd2 ht (fun h => k1 ((lg_cmp_le a b).mp h)) (fun h => k2 (fun q => h ((lg_cmp_le a b).mpr q))))
theorem r_dup2 (C : fxC G d cc nL own nm ret hh x) {a b : Value} (hd : decode cc pc = .ok (.dup2, 1)) (ha : a.category = 1) (hb : b.category = 1) (k : fxR G nL x Q w (pc + 1) ls (a :: b :: a :: b :: st)) : fxR G nL x Q w pc ls (a :: b :: st) := by
  obtain ⟨p, e, R, s, m, args, below, meth, c, t0, u0⟩ := x
  obtain ⟨hx, hb', C2⟩ := C
  exact fx_lift (fun H locs sl cells slots h3 kk => lv_dup2_11 hx hb' hd ha hb kk) k
/-- the answer v, and nothing else -/
def fxPure (v : Value) (w : fxW) : Outcome → fxW → Prop := fun o w' => o = .returned (some v) ∧ w' = w
def fxRet (S : Value → fxW → Prop) : Outcome → fxW → Prop := fun o w' => ∃ v, o = .returned (some v) ∧ S v w'
def fxVoid (S : fxW → Prop) : Outcome → fxW → Prop := fun o w' => o = .returned none ∧ S w'
theorem fxPure.k1 {v : Value} (k : fxR G nL x Q w pc ls (v :: st)) : ∀ v' w', fxPure v w (.returned v') w' → fxR G nL x Q w' pc ls (v'.toList ++ st) := by
  rintro v' w' ⟨h, rfl⟩
  cases h
  exact k
theorem fxPure.k2 {v : Value} {w0 : fxW} : ∀ a w', fxPure v w0 (.threw a) w' → fxRt G nL x Q w' pc ls st a := by
  rintro a w' ⟨h, -⟩
  cases h
theorem fxRet.k1 {S : Value → fxW → Prop} (k : ∀ v w', S v w' → fxR G nL x Q w' pc ls (v :: st)) : ∀ v' w', fxRet S (.returned v') w' → fxR G nL x Q w' pc ls (v'.toList ++ st) := by
  rintro v' w' ⟨v, h, hS⟩
  cases h
  exact k v w' hS
theorem fxRet.k2 {S : Value → fxW → Prop} : ∀ a w', fxRet S (.threw a) w' → fxRt G nL x Q w' pc ls st a := by
  rintro a w' ⟨v, h, -⟩
  cases h
theorem fxVoid.k1 {S : fxW → Prop} (k : ∀ w', S w' → fxR G nL x Q w' pc ls st) : ∀ v' w', fxVoid S (.returned v') w' → fxR G nL x Q w' pc ls (v'.toList ++ st) := by
  rintro v' w' ⟨h, hS⟩
  cases h
  exact k w' hS
theorem fxVoid.k2 {S : fxW → Prop} : ∀ a w', fxVoid S (.threw a) w' → fxRt G nL x Q w' pc ls st a := by
  rintro a w' ⟨h, -⟩
  cases h
/-- a boolean's answer -/
theorem zr_zreturn (C : fxC G d cc nL own nm (some .boolean) hh x) {P : Outcome → fxW → Prop} {v : Int} (hv : v = 0 ∨ v = 1) (hd : decode cc pc = .ok (.ireturn, 1)) (k : P (.returned (some (zi v))) w) : fxR G nL x (fxQ G x P) w pc ls [zi v] := by
  rcases hv with rfl | rfl
  · exact r_zreturn C hd rfl (by decide) k
  · exact r_zreturn C hd rfl (by decide) k
end FXM
/-- what an element of the type ty keeps of v -/
def keptF (ty : Int) (v : Int64) : Int64 := if ty = 0 then v.toInt32.toInt8.toInt32.toInt64 else if ty = 1 then v.toInt32.toInt16.toInt32.toInt64 else if ty = 2 then v.toInt32.toInt64 else if ty = 3 then v else if v < -524288 then -524288 else if 524288 < v then 524288 else v
def bI (p : Prop) [Decidable p] : Int := if p then 1 else 0
theorem bI_01 (p : Prop) [Decidable p] : bI p = 0 ∨ bI p = 1 := by unfold bI; split <;> simp
theorem bI_t {p : Prop} [Decidable p] (h : p) : bI p = 1 := if_pos h
theorem bI_f {p : Prop} [Decidable p] (h : ¬ p) : bI p = 0 := if_neg h
end
section
/-! SMALL METHODS: Math, isWithin, in, kept -/
set_option maxRecDepth 20000 in
theorem m_minL {G : fxG} (d : Nat) (w : fxW) (a b : Int64) : fxM G d y_Ma_minL [.long a, .long b] w (fxPure (.long (if b < a then b else a)) w) := by
  refine fxM.of cc_Ma_minL 4 (some .long) [] (by decide +kernel) w_Ma_minL (Nat.le_of_ble_eq_true rfl) ?_
  intro x C ht hu
  show fxR G 4 x _ w 0 [(0, .long a), (2, .long b)] []
  refine r_lload_n C d_Ma_minL_0 rfl rfl ?_
  refine r_lload_n C d_Ma_minL_1 rfl rfl ?_
  refine zr_lif_gt (tgt := 10) C d_Ma_minL_2 d_Ma_minL_3 (by decide) (fun c_2 => ?_) (fun c_2 => ?_)
  · refine r_lload_n C d_Ma_minL_10 rfl rfl ?_
    exact r_lreturn C d_Ma_minL_11 rfl ⟨by rw [if_pos c_2], rfl⟩
  · refine r_lload_n C d_Ma_minL_6 rfl rfl ?_
    refine r_goto (tgt := 11) C d_Ma_minL_7 (by decide) ?_
    exact r_lreturn C d_Ma_minL_11 rfl ⟨by rw [if_neg c_2], rfl⟩
set_option maxRecDepth 20000 in
theorem m_maxL {G : fxG} (d : Nat) (w : fxW) (a b : Int64) : fxM G d y_Ma_maxL [.long a, .long b] w (fxPure (.long (if a < b then b else a)) w) := by
  refine fxM.of cc_Ma_maxL 4 (some .long) [] (by decide +kernel) w_Ma_maxL (Nat.le_of_ble_eq_true rfl) ?_
  intro x C ht hu
  show fxR G 4 x _ w 0 [(0, .long a), (2, .long b)] []
  refine r_lload_n C d_Ma_maxL_0 rfl rfl ?_
  refine r_lload_n C d_Ma_maxL_1 rfl rfl ?_
  refine zr_lif_lt (tgt := 10) C d_Ma_maxL_2 d_Ma_maxL_3 (by decide) (fun c_2 => ?_) (fun c_2 => ?_)
  · refine r_lload_n C d_Ma_maxL_10 rfl rfl ?_
    exact r_lreturn C d_Ma_maxL_11 rfl ⟨by rw [if_pos c_2], rfl⟩
  · refine r_lload_n C d_Ma_maxL_6 rfl rfl ?_
    refine r_goto (tgt := 11) C d_Ma_maxL_7 (by decide) ?_
    exact r_lreturn C d_Ma_maxL_11 rfl ⟨by rw [if_neg c_2], rfl⟩
set_option maxRecDepth 20000 in
theorem m_minI {G : fxG} (d : Nat) (w : fxW) (a b : Int) (ha : zok a) (hb : zok b) : fxM G d y_Ma_minI [zi a, zi b] w (fxPure (zi (if b < a then b else a)) w) := by
  refine fxM.of cc_Ma_minI 2 (some .int) [] (by decide +kernel) w_Ma_minI (Nat.le_of_ble_eq_true rfl) ?_
  intro x C ht hu
  show fxR G 2 x _ w 0 [(0, zi a), (1, zi b)] []
  refine r_iload_n C d_Ma_minI_0 rfl rfl ?_
  refine r_iload_n C d_Ma_minI_1 rfl rfl ?_
  refine zr_icmp_gt (tgt := 9) C d_Ma_minI_2 (by decide) ha hb (fun c_2 => ?_) (fun c_2 => ?_)
  · refine r_iload_n C d_Ma_minI_9 rfl rfl ?_
    exact r_ireturn C d_Ma_minI_10 rfl ⟨by rw [if_pos c_2], rfl⟩
  · refine r_iload_n C d_Ma_minI_5 rfl rfl ?_
    refine r_goto (tgt := 10) C d_Ma_minI_6 (by decide) ?_
    exact r_ireturn C d_Ma_minI_10 rfl ⟨by rw [if_neg c_2], rfl⟩
set_option maxRecDepth 20000 in
theorem m_maxI {G : fxG} (d : Nat) (w : fxW) (a b : Int) (ha : zok a) (hb : zok b) : fxM G d y_Ma_maxI [zi a, zi b] w (fxPure (zi (if a < b then b else a)) w) := by
  refine fxM.of cc_Ma_maxI 2 (some .int) [] (by decide +kernel) w_Ma_maxI (Nat.le_of_ble_eq_true rfl) ?_
  intro x C ht hu
  show fxR G 2 x _ w 0 [(0, zi a), (1, zi b)] []
  refine r_iload_n C d_Ma_maxI_0 rfl rfl ?_
  refine r_iload_n C d_Ma_maxI_1 rfl rfl ?_
  refine zr_icmp_lt (tgt := 9) C d_Ma_maxI_2 (by decide) ha hb (fun c_2 => ?_) (fun c_2 => ?_)
  · refine r_iload_n C d_Ma_maxI_9 rfl rfl ?_
    exact r_ireturn C d_Ma_maxI_10 rfl ⟨by rw [if_pos c_2], rfl⟩
  · refine r_iload_n C d_Ma_maxI_5 rfl rfl ?_
    refine r_goto (tgt := 10) C d_Ma_maxI_6 (by decide) ?_
    exact r_ireturn C d_Ma_maxI_10 rfl ⟨by rw [if_neg c_2], rfl⟩
/-- floorDiv as the machine does it -/
def fdivF (a b : Int64) : Int64 := if 0 ≤ a ^^^ b then a / b else if a / b * b = a then a / b else a / b - 1
set_option maxRecDepth 20000 in
theorem m_floorDiv {G : fxG} (d : Nat) (w : fxW) (a b : Int64) (hb : ¬ b = 0) : fxM G d y_Ma_floorDiv [.long a, .long b] w (fxPure (.long (fdivF a b)) w) := by
  refine fxM.of cc_Ma_floorDiv 6 (some .long) [] (by decide +kernel) w_Ma_floorDiv (Nat.le_of_ble_eq_true rfl) ?_
  intro x C ht hu
  show fxR G 6 x _ w 0 [(0, .long a), (2, .long b)] []
  refine r_lload_n C d_Ma_floorDiv_0 rfl rfl ?_
  refine r_lload_n C d_Ma_floorDiv_1 rfl rfl ?_
  refine r_ldiv C d_Ma_floorDiv_2 hb ?_
  refine r_lstore (ls' := [(4, _), (0, _), (2, _)]) C d_Ma_floorDiv_3 (by decide) rfl ?_
  refine r_lload_n C d_Ma_floorDiv_5 rfl rfl ?_
  refine r_lload_n C d_Ma_floorDiv_6 rfl rfl ?_
  refine r_lxor C d_Ma_floorDiv_7 ?_
  refine r_lconst (v := 0) C d_Ma_floorDiv_8 (by decide) ?_
  refine zr_lif_ge (tgt := 27) C d_Ma_floorDiv_9 d_Ma_floorDiv_10 (by decide) (fun c_9 => ?_) (fun c_9 => ?_)
  · refine r_lload C d_Ma_floorDiv_27 rfl ?_
    exact r_lreturn C d_Ma_floorDiv_29 rfl ⟨by rw [fdivF, if_pos c_9], rfl⟩
  · refine r_lload C d_Ma_floorDiv_13 rfl ?_
    refine r_lload_n C d_Ma_floorDiv_15 rfl rfl ?_
    refine r_lmul C d_Ma_floorDiv_16 ?_
    refine r_lload_n C d_Ma_floorDiv_17 rfl rfl ?_
    refine zr_lif_eq (tgt := 27) C d_Ma_floorDiv_18 d_Ma_floorDiv_19 (by decide) (fun c_18 => ?_) (fun c_18 => ?_)
    · refine r_lload C d_Ma_floorDiv_27 rfl ?_
      exact r_lreturn C d_Ma_floorDiv_29 rfl ⟨by rw [fdivF, if_neg c_9, if_pos c_18], rfl⟩
    · refine r_lload C d_Ma_floorDiv_22 rfl ?_
      refine r_lconst (v := 1) C d_Ma_floorDiv_24 (by decide) ?_
      refine r_lsub C d_Ma_floorDiv_25 ?_
      exact r_lreturn C d_Ma_floorDiv_26 rfl ⟨by rw [fdivF, if_neg c_9, if_neg c_18], rfl⟩
set_option maxRecDepth 20000 in
theorem m_isWithin {G : fxG} (d : Nat) (w : fxW) (v a b : Int) (hv : zok v) (ha : zok a) (hb : zok b) : fxM G d y_FP_isWithin [zi v, zi a, zi b] w (fxPure (zi (bI (a ≤ v ∧ v ≤ b))) w) := by
  refine fxM.of cc_FP_isWithin 3 (some .boolean) [] (by decide +kernel) w_FP_isWithin (Nat.le_of_ble_eq_true rfl) ?_
  intro x C ht hu
  show fxR G 3 x _ w 0 [(0, zi v), (1, zi a), (2, zi b)] []
  refine r_iload_n C d_FP_isWithin_0 rfl rfl ?_
  refine r_iload_n C d_FP_isWithin_1 rfl rfl ?_
  refine zr_icmp_lt (tgt := 14) C d_FP_isWithin_2 (by decide) hv ha (fun c_2 => ?_) (fun c_2 => ?_)
  · refine r_iconst C d_FP_isWithin_14 rfl ?_
    exact zr_zreturn C (Or.inl rfl) d_FP_isWithin_15 ⟨by rw [bI_f (by omega)], rfl⟩
  · refine r_iload_n C d_FP_isWithin_5 rfl rfl ?_
    refine r_iload_n C d_FP_isWithin_6 rfl rfl ?_
    refine zr_icmp_gt (tgt := 14) C d_FP_isWithin_7 (by decide) hv hb (fun c_7 => ?_) (fun c_7 => ?_)
    · refine r_iconst C d_FP_isWithin_14 rfl ?_
      exact zr_zreturn C (Or.inl rfl) d_FP_isWithin_15 ⟨by rw [bI_f (by omega)], rfl⟩
    · refine r_iconst C d_FP_isWithin_10 rfl ?_
      refine r_goto (tgt := 15) C d_FP_isWithin_11 (by decide) ?_
      exact zr_zreturn C (Or.inr rfl) d_FP_isWithin_15 ⟨by rw [bI_t (by omega)], rfl⟩
set_option maxRecDepth 20000 in
theorem m_in {G : fxG} (d : Nat) (w : fxW) (v a b : Int) (hv : zok v) (ha : zok a) (hb : zok b) : fxM G d y_Mo_in [zi v, zi a, zi b] w (fxPure (zi (bI (a ≤ v ∧ v ≤ b))) w) := by
  refine fxM.of cc_Mo_in 3 (some .boolean) [] (by decide +kernel) w_Mo_in (Nat.le_of_ble_eq_true rfl) ?_
  intro x C ht hu
  show fxR G 3 x _ w 0 [(0, zi v), (1, zi a), (2, zi b)] []
  refine r_iload_n C d_Mo_in_0 rfl rfl ?_
  refine r_iload_n C d_Mo_in_1 rfl rfl ?_
  refine zr_icmp_lt (tgt := 14) C d_Mo_in_2 (by decide) hv ha (fun c_2 => ?_) (fun c_2 => ?_)
  · refine r_iconst C d_Mo_in_14 rfl ?_
    exact zr_zreturn C (Or.inl rfl) d_Mo_in_15 ⟨by rw [bI_f (by omega)], rfl⟩
  · refine r_iload_n C d_Mo_in_5 rfl rfl ?_
    refine r_iload_n C d_Mo_in_6 rfl rfl ?_
    refine zr_icmp_gt (tgt := 14) C d_Mo_in_7 (by decide) hv hb (fun c_7 => ?_) (fun c_7 => ?_)
    · refine r_iconst C d_Mo_in_14 rfl ?_
      exact zr_zreturn C (Or.inl rfl) d_Mo_in_15 ⟨by rw [bI_f (by omega)], rfl⟩
    · refine r_iconst C d_Mo_in_10 rfl ?_
      refine r_goto (tgt := 15) C d_Mo_in_11 (by decide) ?_
      exact zr_zreturn C (Or.inr rfl) d_Mo_in_15 ⟨by rw [bI_t (by omega)], rfl⟩
set_option maxRecDepth 20000 in
theorem m_Mo_kept {G : fxG} (d : Nat) (w : fxW) (ty : Int) (v : Int64) (hty : zok ty) (h0 : 0 ≤ ty) : fxM G d y_Mo_kept [zi ty, .long v] w (fxPure (.long (keptF ty v)) w) := by
  refine fxM.of cc_Mo_kept 3 (some .long) [] (by decide +kernel) w_Mo_kept (Nat.le_of_ble_eq_true rfl) ?_
  intro x C ht hu
  show fxR G 3 x _ w 0 [(0, zi ty), (1, .long v)] []
  refine r_iload_n C d_Mo_kept_0 rfl rfl ?_
  by_cases h4 : 3 < ty
  · refine zr_tableOut (tgt := 48) C d_Mo_kept_1 hty (Or.inr h4) (by decide) ?_
    have e : keptF ty v = if v < -524288 then -524288 else if 524288 < v then 524288 else v := by
      unfold keptF; rw [if_neg (by omega), if_neg (by omega), if_neg (by omega), if_neg (by omega)]
    refine r_lload_n C d_Mo_kept_48 rfl rfl ?_
    refine r_ldc2 (v := (-524288)) C d_Mo_kept_49 (fxTW_in 886 (by decide +kernel) rfl) ?_
    refine zr_lif_ge (tgt := 62) C d_Mo_kept_52 d_Mo_kept_53 (by decide) (fun c_52 => ?_) (fun c_52 => ?_)
    · refine r_lload_n C d_Mo_kept_62 rfl rfl ?_
      refine r_ldc2 (v := 524288) C d_Mo_kept_63 (fxTW_in 887 (by decide +kernel) rfl) ?_
      refine zr_lif_le (tgt := 76) C d_Mo_kept_66 d_Mo_kept_67 (by decide) (fun c_66 => ?_) (fun c_66 => ?_)
      · refine r_lload_n C d_Mo_kept_76 rfl rfl ?_
        exact r_lreturn C d_Mo_kept_77 rfl ⟨by rw [e, if_neg (Int64.not_lt.mpr c_52), if_neg (Int64.not_lt.mpr c_66)], rfl⟩
      · refine r_ldc2 (v := 524288) C d_Mo_kept_70 (fxTW_in 887 (by decide +kernel) rfl) ?_
        refine r_goto (tgt := 77) C d_Mo_kept_73 (by decide) ?_
        exact r_lreturn C d_Mo_kept_77 rfl ⟨by rw [e, if_neg (Int64.not_lt.mpr c_52), if_pos (Int64.not_le.mp c_66)], rfl⟩
    · refine r_ldc2 (v := (-524288)) C d_Mo_kept_56 (fxTW_in 886 (by decide +kernel) rfl) ?_
      refine r_goto (tgt := 77) C d_Mo_kept_59 (by decide) ?_
      exact r_lreturn C d_Mo_kept_77 rfl ⟨by rw [e, if_pos (Int64.not_le.mp c_52)], rfl⟩
  · have hc : ty = 0 ∨ ty = 1 ∨ ty = 2 ∨ ty = 3 := by omega
    rcases hc with rfl | rfl | rfl | rfl
    · refine zr_tableIn (tgt := 32) C d_Mo_kept_1 hty (by decide) (by decide) rfl (by decide) ?_
      refine r_lload_n C d_Mo_kept_32 rfl rfl ?_
      refine r_l2i C d_Mo_kept_33 rfl ?_
      refine r_i2b C d_Mo_kept_34 rfl ?_
      refine r_i2l C d_Mo_kept_35 rfl ?_
      exact r_lreturn C d_Mo_kept_36 rfl ⟨rfl, rfl⟩
    · refine zr_tableIn (tgt := 37) C d_Mo_kept_1 hty (by decide) (by decide) rfl (by decide) ?_
      refine r_lload_n C d_Mo_kept_37 rfl rfl ?_
      refine r_l2i C d_Mo_kept_38 rfl ?_
      refine r_i2s C d_Mo_kept_39 rfl ?_
      refine r_i2l C d_Mo_kept_40 rfl ?_
      exact r_lreturn C d_Mo_kept_41 rfl ⟨rfl, rfl⟩
    · refine zr_tableIn (tgt := 42) C d_Mo_kept_1 hty (by decide) (by decide) rfl (by decide) ?_
      refine r_lload_n C d_Mo_kept_42 rfl rfl ?_
      refine r_l2i C d_Mo_kept_43 rfl ?_
      refine r_i2l C d_Mo_kept_44 rfl ?_
      exact r_lreturn C d_Mo_kept_45 rfl ⟨rfl, rfl⟩
    · refine zr_tableIn (tgt := 46) C d_Mo_kept_1 hty (by decide) (by decide) rfl (by decide) ?_
      refine r_lload_n C d_Mo_kept_46 rfl rfl ?_
      exact r_lreturn C d_Mo_kept_47 rfl ⟨rfl, rfl⟩
theorem kept_mm (v : Int64) : (if (-524288 : Int64) < (if v < 524288 then v else 524288) then (if v < 524288 then v else 524288) else -524288) = if v < -524288 then -524288 else if 524288 < v then 524288 else v := by
  simp only [Int64.lt_iff_toInt_lt]
  have e1 : (524288 : Int64).toInt = 524288 := by decide
  have e2 : (-524288 : Int64).toInt = -524288 := by decide
  rw [e1, e2]
  split <;> split <;> split <;> first | rfl | (split <;> first | rfl | (apply Int64.toInt_inj.mp; omega)) | (apply Int64.toInt_inj.mp; omega) | skip
set_option maxRecDepth 20000 in
theorem m_Row_kept {G : fxG} (d : Nat) (w : fxW) (r n : Nat) (ty : Int) (v : Int64) (hd1 : 1 ≤ d) (hr : fxk w r = some (1, n)) (ht0 : fxf w 65 r = zi ty) (hty : zok ty) (h0 : 0 ≤ ty) : fxM G d y_Row_kept [.ref r, .long v] w (fxPure (.long (keptF ty v)) w) := by
  refine fxM.of cc_Row_kept 3 (some .long) [] (by decide +kernel) w_Row_kept (Nat.le_of_ble_eq_true rfl) ?_
  intro x C ht hu
  show fxR G 3 x _ w 0 [(0, .ref r), (1, .long v)] []
  refine r_aload_n C d_Row_kept_0 rfl rfl ?_
  refine g_Row_15 C d_Row_kept_1 hr ht0 ?_
  by_cases h4 : 3 < ty
  · refine zr_tableOut (tgt := 52) C d_Row_kept_4 hty (Or.inr h4) (by decide) ?_
    have e : keptF ty v = if v < -524288 then -524288 else if 524288 < v then 524288 else v := by
      unfold keptF; rw [if_neg (by omega), if_neg (by omega), if_neg (by omega), if_neg (by omega)]
    refine r_ldc2 (v := (-524288)) C d_Row_kept_52 (fxTW_in 316 (by decide +kernel) rfl) ?_
    refine r_ldc2 (v := 524288) C d_Row_kept_55 (fxTW_in 317 (by decide +kernel) rfl) ?_
    refine r_lload_n C d_Row_kept_58 rfl rfl ?_
    refine c_Row_26 C d_Row_kept_59 (m_minL 0 w _ _) (by omega) (by decide) (fxPure.k1 ?_) fxPure.k2
    refine c_Row_32 C d_Row_kept_62 (m_maxL 0 w _ _) (by omega) (by decide) (fxPure.k1 ?_) fxPure.k2
    exact r_lreturn C d_Row_kept_65 rfl ⟨by rw [e]; exact congrArg (fun z => Outcome.returned (some (Value.long z))) (kept_mm v), rfl⟩
  · have hc : ty = 0 ∨ ty = 1 ∨ ty = 2 ∨ ty = 3 := by omega
    rcases hc with rfl | rfl | rfl | rfl
    · refine zr_tableIn (tgt := 36) C d_Row_kept_4 hty (by decide) (by decide) rfl (by decide) ?_
      refine r_lload_n C d_Row_kept_36 rfl rfl ?_
      refine r_l2i C d_Row_kept_37 rfl ?_
      refine r_i2b C d_Row_kept_38 rfl ?_
      refine r_i2l C d_Row_kept_39 rfl ?_
      exact r_lreturn C d_Row_kept_40 rfl ⟨rfl, rfl⟩
    · refine zr_tableIn (tgt := 41) C d_Row_kept_4 hty (by decide) (by decide) rfl (by decide) ?_
      refine r_lload_n C d_Row_kept_41 rfl rfl ?_
      refine r_l2i C d_Row_kept_42 rfl ?_
      refine r_i2s C d_Row_kept_43 rfl ?_
      refine r_i2l C d_Row_kept_44 rfl ?_
      exact r_lreturn C d_Row_kept_45 rfl ⟨rfl, rfl⟩
    · refine zr_tableIn (tgt := 46) C d_Row_kept_4 hty (by decide) (by decide) rfl (by decide) ?_
      refine r_lload_n C d_Row_kept_46 rfl rfl ?_
      refine r_l2i C d_Row_kept_47 rfl ?_
      refine r_i2l C d_Row_kept_48 rfl ?_
      exact r_lreturn C d_Row_kept_49 rfl ⟨rfl, rfl⟩
    · refine zr_tableIn (tgt := 50) C d_Row_kept_4 hty (by decide) (by decide) rfl (by decide) ?_
      refine r_lload_n C d_Row_kept_50 rfl rfl ?_
      exact r_lreturn C d_Row_kept_51 rfl ⟨rfl, rfl⟩
end
section
/-! THE REFERENCE'S STATE: ints by field and place, longs by field and place (the fields' numbers are the class file's) -/
abbrev Ms : Type := (Nat → Nat → Int) × (Nat → Nat → Int64)
def sp (S : Ms) (k j : Nat) (v : Int) : Ms := (fun k' j' => if k' = k then (if j' = j then v else S.1 k' j') else S.1 k' j', S.2)
def sq (S : Ms) (k j : Nat) (v : Int64) : Ms := (S.1, fun k' j' => if k' = k then (if j' = j then v else S.2 k' j') else S.2 k' j')
/-- 0 a number, 1 an array of ints, 2 an array of longs -/
def moK (k : Nat) : Nat := [0, 0, 1, 1, 2, 1, 1, 1, 1, 1, 1, 1, 1, 1, 0, 1, 1, 1, 1, 1, 1, 2, 2, 0, 1, 1, 1, 1, 1, 1, 0, 0, 0].getD k 9
def moL (k : Nat) : Nat := [0, 0, 4, 4, 96, 12, 12, 12, 12, 12, 12, 12, 12, 12, 0, 600, 600, 600, 600, 600, 600, 600, 600, 0, 2400, 4, 4, 4, 4, 4, 0, 0, 0].getD k 0
def moO (k : Nat) : Nat := [0, 0, 1, 2, 3, 4, 5, 6, 7, 8, 9, 10, 11, 12, 0, 13, 14, 15, 16, 17, 18, 19, 20, 0, 21, 22, 23, 24, 25, 26, 0, 0, 0].getD k 0
theorem moK_lt {k : Nat} (h : moK k < 9) : k < 33 := by
  rcases Nat.lt_or_ge k 33 with q | q
  · exact q
  · unfold moK at h; rw [List.getD_eq_getElem?_getD, List.getElem?_eq_none (by simpa using q)] at h; simp at h
theorem moO_inj0 : ∀ k, k < 33 → ∀ k', k' < 33 → moK k ≠ 0 → moK k' ≠ 0 → moO k = moO k' → k = k' := by decide +kernel
theorem moO_inj {k k' : Nat} (h : moK k < 9) (h' : moK k' < 9) (h0 : moK k ≠ 0) (h0' : moK k' ≠ 0) (e : moO k = moO k') : k = k' := moO_inj0 k (moK_lt h) k' (moK_lt h') h0 h0' e
theorem moO_pos0 : ∀ k, k < 33 → moK k ≠ 0 → 0 < moO k ∧ moO k < 27 := by decide +kernel
theorem moO_pos {k : Nat} (h : moK k < 9) (h0 : moK k ≠ 0) : 0 < moO k ∧ moO k < 27 := moO_pos0 k (moK_lt h) h0
/-- the reference at m holds S -/
def MoR (S : Ms) (m : Nat) (w : fxW) : Prop :=
  fxk w m = some (6, 0) ∧ (∀ k, moK k = 0 → fxf w (384 + k) m = zi (S.1 k 0)) ∧
  (∀ k, moK k = 1 → fxf w (384 + k) m = .ref (m + moO k) ∧ fxk w (m + moO k) = some (101, moL k) ∧ ∀ j, j < moL k → fxe w 1 (m + moO k) j = zi (S.1 k j)) ∧
  (∀ k, moK k = 2 → fxf w (384 + k) m = .ref (m + moO k) ∧ fxk w (m + moO k) = some (100, moL k) ∧ ∀ j, j < moL k → fxe w 0 (m + moO k) j = .long (S.2 k j))
section MO
variable {S : Ms} {m : Nat} {w : fxW}
theorem MoR.sc (h : MoR S m w) (k : Nat) (hk : moK k = 0) : fxf w (384 + k) m = zi (S.1 k 0) := h.2.1 k hk
theorem MoR.ar (h : MoR S m w) (k : Nat) (hk : moK k = 1) : fxf w (384 + k) m = .ref (m + moO k) := (h.2.2.1 k hk).1
theorem MoR.kd (h : MoR S m w) (k : Nat) (hk : moK k = 1) : fxk w (m + moO k) = some (101, moL k) := (h.2.2.1 k hk).2.1
theorem MoR.el (h : MoR S m w) (k : Nat) (hk : moK k = 1) {j : Nat} (hj : j < moL k) : fxe w 1 (m + moO k) j = zi (S.1 k j) := (h.2.2.1 k hk).2.2 j hj
theorem MoR.arL (h : MoR S m w) (k : Nat) (hk : moK k = 2) : fxf w (384 + k) m = .ref (m + moO k) := (h.2.2.2 k hk).1
theorem MoR.kdL (h : MoR S m w) (k : Nat) (hk : moK k = 2) : fxk w (m + moO k) = some (100, moL k) := (h.2.2.2 k hk).2.1
theorem MoR.elL (h : MoR S m w) (k : Nat) (hk : moK k = 2) {j : Nat} (hj : j < moL k) : fxe w 0 (m + moO k) j = .long (S.2 k j) := (h.2.2.2 k hk).2.2 j hj
theorem MoR.putI (h : MoR S m w) (k : Nat) (hk : moK k = 1) (j : Nat) (v : Int) : MoR (sp S k j v) m (fx_ast w 1 (m + moO k) j (zi v)) := by
  refine ⟨h.1, fun k' hk' => ?_, fun k' hk' => ⟨(h.2.2.1 k' hk').1, (h.2.2.1 k' hk').2.1, fun j' hj' => ?_⟩, fun k' hk' => ⟨(h.2.2.2 k' hk').1, (h.2.2.2 k' hk').2.1, fun j' hj' => ?_⟩⟩
  · have e : k' ≠ k := fun e => by rw [e, hk] at hk'; cases hk'
    show fxf w (384 + k') m = zi (if k' = k then _ else S.1 k' 0)
    rw [if_neg e]; exact h.2.1 k' hk'
  · show (if 1 = 1 then (if m + moO k' = m + moO k then (if j' = j then zi v else fxe w 1 (m + moO k') j') else fxe w 1 (m + moO k') j') else fxe w 1 (m + moO k') j') = zi (if k' = k then (if j' = j then v else S.1 k' j') else S.1 k' j')
    rw [if_pos rfl]
    by_cases e : k' = k
    · subst e
      rw [if_pos rfl, if_pos rfl]
      by_cases e2 : j' = j
      · rw [if_pos e2, if_pos e2]
      · rw [if_neg e2, if_neg e2]; exact (h.2.2.1 k' hk').2.2 j' hj'
    · rw [if_neg e, if_neg (fun q => e (moO_inj (by omega) (by omega) (by omega) (by omega) (by omega)))]
      exact (h.2.2.1 k' hk').2.2 j' hj'
  · exact (h.2.2.2 k' hk').2.2 j' hj'
theorem MoR.putL (h : MoR S m w) (k : Nat) (hk : moK k = 2) (j : Nat) (v : Int64) : MoR (sq S k j v) m (fx_ast w 0 (m + moO k) j (.long v)) := by
  refine ⟨h.1, h.2.1, fun k' hk' => ⟨(h.2.2.1 k' hk').1, (h.2.2.1 k' hk').2.1, fun j' hj' => ?_⟩, fun k' hk' => ⟨(h.2.2.2 k' hk').1, (h.2.2.2 k' hk').2.1, fun j' hj' => ?_⟩⟩
  · exact (h.2.2.1 k' hk').2.2 j' hj'
  · show (if 0 = 0 then (if m + moO k' = m + moO k then (if j' = j then Value.long v else fxe w 0 (m + moO k') j') else fxe w 0 (m + moO k') j') else fxe w 0 (m + moO k') j') = .long (if k' = k then (if j' = j then v else S.2 k' j') else S.2 k' j')
    rw [if_pos rfl]
    by_cases e : k' = k
    · subst e
      rw [if_pos rfl, if_pos rfl]
      by_cases e2 : j' = j
      · rw [if_pos e2, if_pos e2]
      · rw [if_neg e2, if_neg e2]; exact (h.2.2.2 k' hk').2.2 j' hj'
    · rw [if_neg e, if_neg (fun q => e (moO_inj (by omega) (by omega) (by omega) (by omega) (by omega)))]
      exact (h.2.2.2 k' hk').2.2 j' hj'
theorem MoR.putS (h : MoR S m w) (k : Nat) (hk : moK k = 0) (v : Int) : MoR (sp S k 0 v) m (fx_put w (384 + k) m (zi v)) := by
  have h1 : ∀ k', moK k' ≠ 0 → fxf (fx_put w (384 + k) m (zi v)) (384 + k') m = fxf w (384 + k') m := fun k' hk' => by
    show (if 384 + k' = 384 + k then _ else fxf w (384 + k') m) = _
    rw [if_neg (fun q => hk' (by rw [show k' = k by omega]; exact hk))]
  refine ⟨h.1, fun k' hk' => ?_, fun k' hk' => ⟨(h1 k' (by omega)).trans (h.2.2.1 k' hk').1, (h.2.2.1 k' hk').2.1, fun j' hj' => ?_⟩, fun k' hk' => ⟨(h1 k' (by omega)).trans (h.2.2.2 k' hk').1, (h.2.2.2 k' hk').2.1, (h.2.2.2 k' hk').2.2⟩⟩
  · show (if 384 + k' = 384 + k then (if m = m then zi v else fxf w (384 + k') m) else fxf w (384 + k') m) = zi (if k' = k then (if 0 = 0 then v else S.1 k' 0) else S.1 k' 0)
    by_cases e : k' = k
    · subst e; simp
    · rw [if_neg (by omega), if_neg e]; exact h.2.1 k' hk'
  · have e : k' ≠ k := fun e => by rw [e, hk] at hk'; cases hk'
    show fxe w 1 (m + moO k') j' = zi (if k' = k then _ else S.1 k' j')
    rw [if_neg e]; exact (h.2.2.1 k' hk').2.2 j' hj'
end MO
/-- the class's cells (and all else outside the reference) stay -/
def MoF (m : Nat) (w w' : fxW) : Prop := fxt w' = fxt w ∧ fxu w' = fxu w ∧ (∀ a, fxk w' a = fxk w a) ∧ (∀ g a, ¬ (m ≤ a ∧ a < m + 27) → fxf w' g a = fxf w g a) ∧ (∀ t a j, ¬ (m ≤ a ∧ a < m + 27) → fxe w' t a j = fxe w t a j)
theorem MoF.rf {m : Nat} {w : fxW} : MoF m w w := ⟨rfl, rfl, fun _ => rfl, fun _ _ _ => rfl, fun _ _ _ _ => rfl⟩
theorem MoF.tr {m : Nat} {w w' w'' : fxW} (h : MoF m w w') (h' : MoF m w' w'') : MoF m w w'' :=
  ⟨h'.1.trans h.1, h'.2.1.trans h.2.1, fun a => (h'.2.2.1 a).trans (h.2.2.1 a), fun g a q => (h'.2.2.2.1 g a q).trans (h.2.2.2.1 g a q), fun t a j q => (h'.2.2.2.2 t a j q).trans (h.2.2.2.2 t a j q)⟩
theorem MoF.ast {m : Nat} {w : fxW} (t k j : Nat) (hk : moK k < 9) (h0 : moK k ≠ 0) (v : Value) : MoF m w (fx_ast w t (m + moO k) j v) := by
  obtain ⟨p1, p2⟩ := moO_pos hk h0
  refine ⟨rfl, rfl, fun _ => rfl, fun _ _ _ => rfl, fun t' a j' q => ?_⟩
  show (if t' = t then (if a = m + moO k then _ else fxe w t' a j') else fxe w t' a j') = fxe w t' a j'
  rw [if_neg (c := a = m + moO k) (by omega)]; split <;> rfl
theorem MoF.put {m : Nat} {w : fxW} (g : Nat) (v : Value) : MoF m w (fx_put w g m v) := by
  refine ⟨rfl, rfl, fun _ => rfl, fun g' a q => ?_, fun _ _ _ _ => rfl⟩
  show (if g' = g then (if a = m then v else fxf w g' a) else fxf w g' a) = fxf w g' a
  rw [if_neg (c := a = m) (by omega)]; split <;> rfl
end
section
/-! THE REFERENCE'S METHODS, I: raise, thrown, busy, noElement, put, pull -/
def moRet (m : Nat) (w : fxW) (v : Value) (S' : Ms) : Outcome → fxW → Prop := fun o w' => o = .returned (some v) ∧ MoR S' m w' ∧ MoF m w w'
def moVoid (m : Nat) (w : fxW) (S' : Ms) : Outcome → fxW → Prop := fun o w' => o = .returned none ∧ MoR S' m w' ∧ MoF m w w'
section MOK
variable {G : fxG} {nL : Nat} {x : fxX} {Q : State → Prop} {w : fxW} {pc : Nat} {ls : List (Nat × Value)} {st : List Value} {m : Nat} {v : Value} {S' : Ms}
theorem moRet.k1 (k : ∀ w', MoR S' m w' → MoF m w w' → fxR G nL x Q w' pc ls (v :: st)) : ∀ v' w', moRet m w v S' (.returned v') w' → fxR G nL x Q w' pc ls (v'.toList ++ st) := by
  rintro v' w' ⟨h, h1, h2⟩
  cases h
  exact k w' h1 h2
theorem moRet.k2 : ∀ a w', moRet m w v S' (.threw a) w' → fxRt G nL x Q w' pc ls st a := by
  rintro a w' ⟨h, -⟩
  cases h
theorem moVoid.k1 (k : ∀ w', MoR S' m w' → MoF m w w' → fxR G nL x Q w' pc ls st) : ∀ v' w', moVoid m w S' (.returned v') w' → fxR G nL x Q w' pc ls (v'.toList ++ st) := by
  rintro v' w' ⟨h, h1, h2⟩
  cases h
  exact k w' h1 h2
theorem moVoid.k2 : ∀ a w', moVoid m w S' (.threw a) w' → fxRt G nL x Q w' pc ls st a := by
  rintro a w' ⟨h, -⟩
  cases h
theorem mo_abS {S : Ms} {v : Int} (k : Nat) (hR : MoR S m w) (hk : moK k = 0) (kk : ∀ w', MoR (sp S k 0 v) m w' → MoF m w w' → fxR G nL x Q w' pc ls st) : fxR G nL x Q (fx_put w (384 + k) m (zi v)) pc ls st := kk _ (hR.putS k hk v) (MoF.put _ _)
theorem mo_abI {S : Ms} {v : Int} {j : Nat} (k : Nat) (hR : MoR S m w) (hk : moK k = 1) (kk : ∀ w', MoR (sp S k j v) m w' → MoF m w w' → fxR G nL x Q w' pc ls st) : fxR G nL x Q (fx_ast w 1 (m + moO k) j (zi v)) pc ls st := kk _ (hR.putI k hk j v) (MoF.ast _ _ _ (by omega) (by omega) _)
theorem mo_abL {S : Ms} {v : Int64} {j : Nat} (k : Nat) (hR : MoR S m w) (hk : moK k = 2) (kk : ∀ w', MoR (sq S k j v) m w' → MoF m w w' → fxR G nL x Q w' pc ls st) : fxR G nL x Q (fx_ast w 0 (m + moO k) j (.long v)) pc ls st := kk _ (hR.putL k hk j v) (MoF.ast _ _ _ (by omega) (by omega) _)
end MOK
noncomputable def cI (p : Prop) : Int := @ite _ p (Classical.propDecidable p) 1 0
theorem cI_t {p : Prop} (h : p) : cI p = 1 := if_pos h
theorem cI_f {p : Prop} (h : ¬ p) : cI p = 0 := if_neg h
theorem cI_01 (p : Prop) : cI p = 0 ∨ cI p = 1 := by
  by_cases h : p
  · exact Or.inr (cI_t h)
  · exact Or.inl (cI_f h)
theorem cI_1 {p : Prop} : cI p = 1 ↔ p := by
  constructor
  · intro h
    by_cases q : p
    · exact q
    · rw [cI_f q] at h; cases h
  · exact cI_t
theorem cI_0 {p : Prop} : cI p = 0 ↔ ¬ p := by
  constructor
  · intro h q; rw [cI_t q] at h; cases h
  · exact cI_f
theorem bI_c (p : Prop) [h : Decidable p] : bI p = cI p := by
  by_cases q : p
  · rw [bI_t q, cI_t q]
  · rw [bI_f q, cI_f q]
theorem zok_c (p : Prop) : zok (cI p) := by rcases cI_01 p with h | h <;> rw [h] <;> exact ⟨by decide, by decide⟩
theorem zok_b (p : Prop) [Decidable p] : zok (bI p) := by rcases bI_01 p with h | h <;> rw [h] <;> exact ⟨by decide, by decide⟩
set_option maxRecDepth 20000 in
theorem m_raise {G : fxG} (d : Nat) {S : Ms} {m : Nat} {w : fxW} (hR : MoR S m w) (c : Int) : fxM G d y_Mo_raise [.ref m, zi c] w (moRet m w (zi 0) (sp S 0 0 c)) := by
  refine fxM.of cc_Mo_raise 2 (some .int) [] (by decide +kernel) w_Mo_raise (Nat.le_of_ble_eq_true rfl) ?_
  intro x C ht hu
  show fxR G 2 x _ w 0 [(0, .ref m), (1, zi c)] []
  have hF : MoF m w w := MoF.rf
  refine r_aload_n C d_Mo_raise_0 rfl rfl ?_
  refine r_iload_n C d_Mo_raise_1 rfl rfl ?_
  refine p_Mo_96 C d_Mo_raise_2 rfl rfl hR.1 ?_
  refine mo_abS 0 hR rfl (fun w hR hF9 => ?_)
  have hF := hF.tr hF9
  refine r_iconst C d_Mo_raise_5 rfl ?_
  exact r_ireturn C d_Mo_raise_6 rfl ⟨rfl, hR, hF⟩
set_option maxRecDepth 20000 in
theorem m_thrown {G : fxG} (d : Nat) {S : Ms} {m : Nat} {w : fxW} (hR : MoR S m w) : fxM G d y_Mo_thrown [.ref m] w (fxPure (zi (S.1 0 0)) w) := by
  refine fxM.of cc_Mo_thrown 1 (some .int) [] (by decide +kernel) w_Mo_thrown (Nat.le_of_ble_eq_true rfl) ?_
  intro x C ht hu
  show fxR G 1 x _ w 0 [(0, .ref m)] []
  refine r_aload_n C d_Mo_thrown_0 rfl rfl ?_
  refine g_Mo_96 C d_Mo_thrown_1 hR.1 (hR.sc 0 rfl) ?_
  exact r_ireturn C d_Mo_thrown_4 rfl ⟨rfl, rfl⟩
/-- a job that runs is on the array a -/
def mBusy (S : Ms) (a : Int) : Prop := ∃ j : Nat, (j : Int) < S.1 14 0 ∧ S.1 6 j = a ∧ S.1 9 j = 0
set_option maxRecDepth 20000 in
theorem m_busy {G : fxG} (d : Nat) {S : Ms} {m : Nat} {w : fxW} (hR : MoR S m w) (a : Int) (ha : zok a) (hj : 0 ≤ S.1 14 0 ∧ S.1 14 0 ≤ 12) (hon : ∀ j, zok (S.1 6 j)) (hst : ∀ j, zok (S.1 9 j)) : fxM G d y_Mo_busy [.ref m, zi a] w (fxPure (zi (cI (mBusy S a))) w) := by
  refine fxM.of cc_Mo_busy 3 (some .boolean) [] (by decide +kernel) w_Mo_busy (Nat.le_of_ble_eq_true rfl) ?_
  intro x C ht hu
  have loop : ∀ (n : Nat) (j : Nat), j ≤ 12 → 13 ≤ j + n → (∀ i : Nat, i < j → ¬ (S.1 6 i = a ∧ S.1 9 i = 0)) → fxR G 3 x (fxQ G x (fxPure (zi (cI (mBusy S a))) w)) w 2 [(2, zi (j : Int)), (0, .ref m), (1, zi a)] [] := by
    intro n
    induction n with
    | zero => intro j h1 h2; exact absurd h2 (by omega)
    | succ n ih =>
      intro j h1 h2 h3
      refine r_iload_n C d_Mo_busy_2 rfl rfl ?_
      refine r_aload_n C d_Mo_busy_3 rfl rfl ?_
      refine g_Mo_103 C d_Mo_busy_4 hR.1 (hR.sc 14 rfl) ?_
      refine zr_icmp_ge (tgt := 37) C d_Mo_busy_7 (by decide) (by unfold zok; omega) (by unfold zok; omega) (fun c_7 => ?_) (fun c_7 => ?_)
      · refine r_iconst C d_Mo_busy_37 rfl ?_
        refine zr_zreturn C (Or.inl rfl) d_Mo_busy_38 ⟨by rw [cI_f]; rintro ⟨i, q1, q2, q3⟩; exact h3 i (by omega) ⟨q2, q3⟩, rfl⟩
      · refine r_aload_n C d_Mo_busy_10 rfl rfl ?_
        refine g_Mo_23 C d_Mo_busy_11 hR.1 (hR.ar 6 rfl) ?_
        refine r_iload_n C d_Mo_busy_14 rfl rfl ?_
        refine zr_iaload (t := 1) (k := j) C d_Mo_busy_15 (by decide) rfl (Or.inl (hR.kd 6 rfl)) (by omega) (by show j < 12; omega) (by decide) (hR.el 6 rfl (by show j < 12; omega)) ?_
        refine r_iload_n C d_Mo_busy_16 rfl rfl ?_
        refine zr_icmp_ne (tgt := 31) C d_Mo_busy_17 (by decide) (hon j) ha (fun c_17 => ?_) (fun c_17 => ?_)
        · refine zr_iinc (ls' := [(2, _), (0, _), (1, _)]) C d_Mo_busy_31 rfl (by decide) rfl ?_
          refine r_goto (tgt := 2) C d_Mo_busy_34 (by decide) ?_
          refine ih (j + 1) (by omega) (by omega) (fun i hi => ?_)
          by_cases e : i = j
          · subst e; exact fun q => c_17 q.1
          · exact h3 i (by omega)
        · refine r_aload_n C d_Mo_busy_20 rfl rfl ?_
          refine g_Mo_32 C d_Mo_busy_21 hR.1 (hR.ar 9 rfl) ?_
          refine r_iload_n C d_Mo_busy_24 rfl rfl ?_
          refine zr_iaload (t := 1) (k := j) C d_Mo_busy_25 (by decide) rfl (Or.inl (hR.kd 9 rfl)) (by omega) (by show j < 12; omega) (by decide) (hR.el 9 rfl (by show j < 12; omega)) ?_
          refine zr_if_ne (tgt := 31) C d_Mo_busy_26 (by decide) (hst j) (fun c_26 => ?_) (fun c_26 => ?_)
          · refine zr_iinc (ls' := [(2, _), (0, _), (1, _)]) C d_Mo_busy_31 rfl (by decide) rfl ?_
            refine r_goto (tgt := 2) C d_Mo_busy_34 (by decide) ?_
            refine ih (j + 1) (by omega) (by omega) (fun i hi => ?_)
            by_cases e : i = j
            · subst e; exact fun q => c_26 q.2
            · exact h3 i (by omega)
          · refine r_iconst C d_Mo_busy_29 rfl ?_
            refine zr_zreturn C (Or.inr rfl) d_Mo_busy_30 ⟨by rw [cI_t]; exact ⟨j, by omega, c_17, c_26⟩, rfl⟩
  show fxR G 3 x _ w 0 [(0, .ref m), (1, zi a)] []
  refine r_iconst C d_Mo_busy_0 rfl ?_
  refine r_istore_n (ls' := [(2, _), (0, _), (1, _)]) C d_Mo_busy_1 rfl (by decide) rfl ?_
  exact loop 13 0 (by decide) (by decide) (fun i hi => absurd hi (by omega))
set_option maxRecDepth 20000 in
theorem m_noElement {G : fxG} (d : Nat) {S : Ms} {m : Nat} {w : fxW} (hR : MoR S m w) (a i : Int) (ha : zok a) (hi : zok i) (hd1 : 1 ≤ d) (hty : ∀ j, zok (S.1 2 j)) (hln : ∀ j, zok (S.1 3 j)) : fxM G d y_Mo_noElement [.ref m, zi a, zi i] w (fxPure (zi (cI (¬ (0 ≤ a ∧ a ≤ 3 ∧ 0 ≤ S.1 2 a.toNat ∧ 0 ≤ i ∧ i < S.1 3 a.toNat)))) w) := by
  refine fxM.of cc_Mo_noElement 3 (some .boolean) [] (by decide +kernel) w_Mo_noElement (Nat.le_of_ble_eq_true rfl) ?_
  intro x C ht hu
  show fxR G 3 x _ w 0 [(0, .ref m), (1, zi a), (2, zi i)] []
  refine r_iload_n C d_Mo_noElement_0 rfl rfl ?_
  refine r_iconst C d_Mo_noElement_1 rfl ?_
  refine r_iconst C d_Mo_noElement_2 rfl ?_
  refine c_Mo_106 C d_Mo_noElement_3 (m_in 0 w _ _ _ ha (by unfold zok; omega) (by unfold zok; omega)) (by omega) (by decide) (fxPure.k1 ?_) fxPure.k2
  refine zr_if_eq (tgt := 32) C d_Mo_noElement_6 (by decide) (zok_b _) (fun c_6 => ?_) (fun c_6 => ?_)
  · refine r_iconst C d_Mo_noElement_32 rfl ?_
    refine r_goto (tgt := 37) C d_Mo_noElement_33 (by decide) ?_
    have e : ¬ (0 ≤ a ∧ a ≤ 3) := fun q => by rw [bI_t q] at c_6; cases c_6
    exact zr_zreturn C (Or.inr rfl) d_Mo_noElement_37 ⟨by rw [cI_t (by omega)], rfl⟩
  · have e : 0 ≤ a ∧ a ≤ 3 := by
      rcases Decidable.em (0 ≤ a ∧ a ≤ 3) with q | q
      · exact q
      · exact absurd (bI_f q) c_6
    obtain ⟨a, rfl⟩ := Int.eq_ofNat_of_zero_le e.1
    rw [Int.toNat_natCast]
    refine r_aload_n C d_Mo_noElement_9 rfl rfl ?_
    refine g_Mo_7 C d_Mo_noElement_10 hR.1 (hR.ar 2 rfl) ?_
    refine r_iload_n C d_Mo_noElement_13 rfl rfl ?_
    refine zr_iaload (t := 1) (k := a) C d_Mo_noElement_14 (by decide) rfl (Or.inl (hR.kd 2 rfl)) (by omega) (by show a < 4; omega) (by decide) (hR.el 2 rfl (by show a < 4; omega)) ?_
    refine zr_if_lt (tgt := 32) C d_Mo_noElement_15 (by decide) (hty a) (fun c_15 => ?_) (fun c_15 => ?_)
    · refine r_iconst C d_Mo_noElement_32 rfl ?_
      refine r_goto (tgt := 37) C d_Mo_noElement_33 (by decide) ?_
      exact zr_zreturn C (Or.inr rfl) d_Mo_noElement_37 ⟨by rw [cI_t (by omega)], rfl⟩
    · refine r_iload_n C d_Mo_noElement_18 rfl rfl ?_
      refine zr_if_lt (tgt := 32) C d_Mo_noElement_19 (by decide) hi (fun c_19 => ?_) (fun c_19 => ?_)
      · refine r_iconst C d_Mo_noElement_32 rfl ?_
        refine r_goto (tgt := 37) C d_Mo_noElement_33 (by decide) ?_
        exact zr_zreturn C (Or.inr rfl) d_Mo_noElement_37 ⟨by rw [cI_t (by omega)], rfl⟩
      · refine r_iload_n C d_Mo_noElement_22 rfl rfl ?_
        refine r_aload_n C d_Mo_noElement_23 rfl rfl ?_
        refine g_Mo_13 C d_Mo_noElement_24 hR.1 (hR.ar 3 rfl) ?_
        refine r_iload_n C d_Mo_noElement_27 rfl rfl ?_
        refine zr_iaload (t := 1) (k := a) C d_Mo_noElement_28 (by decide) rfl (Or.inl (hR.kd 3 rfl)) (by omega) (by show a < 4; omega) (by decide) (hR.el 3 rfl (by show a < 4; omega)) ?_
        refine zr_icmp_lt (tgt := 36) C d_Mo_noElement_29 (by decide) hi (hln a) (fun c_29 => ?_) (fun c_29 => ?_)
        · refine r_iconst C d_Mo_noElement_36 rfl ?_
          exact zr_zreturn C (Or.inl rfl) d_Mo_noElement_37 ⟨by rw [cI_f (by omega)], rfl⟩
        · refine r_iconst C d_Mo_noElement_32 rfl ?_
          refine r_goto (tgt := 37) C d_Mo_noElement_33 (by decide) ?_
          exact zr_zreturn C (Or.inr rfl) d_Mo_noElement_37 ⟨by rw [cI_t (by omega)], rfl⟩
/-- a task on top of a queue -/
def mPut (S : Ms) (i : Nat) (t : Int) : Ms := sp (sp S 24 (600 * i + (S.1 25 i).toNat) t) 25 i (S.1 25 i + 1)
set_option maxRecDepth 20000 in
theorem m_put {G : fxG} (d : Nat) {S : Ms} {m : Nat} {w : fxW} (hR : MoR S m w) (i q : Nat) (t : Int) (hi : i < 4) (hq : S.1 25 i = (q : Int)) (hq6 : q < 600) : fxM G d y_Mo_put [.ref m, zi (i : Int), zi t] w (moVoid m w (mPut S i t)) := by
  refine fxM.of cc_Mo_put 3 none [] (by decide +kernel) w_Mo_put (Nat.le_of_ble_eq_true rfl) ?_
  intro x C ht hu
  have e : mPut S i t = sp (sp S 24 (600 * i + q) t) 25 i (S.1 25 i + 1) := by unfold mPut; rw [hq]; rfl
  rw [e]
  show fxR G 3 x _ w 0 [(0, .ref m), (1, zi (i : Int)), (2, zi t)] []
  have hF : MoF m w w := MoF.rf
  refine r_aload_n C d_Mo_put_0 rfl rfl ?_
  refine g_Mo_71 C d_Mo_put_1 hR.1 (hR.ar 24 rfl) ?_
  refine r_sipush (v := Int32.ofInt 600) C d_Mo_put_4 (by decide) ?_
  refine r_iload_n C d_Mo_put_7 rfl rfl ?_
  refine zr_imul C d_Mo_put_8 ?_
  refine r_aload_n C d_Mo_put_9 rfl rfl ?_
  refine g_Mo_74 C d_Mo_put_10 hR.1 (hR.ar 25 rfl) ?_
  refine r_iload_n C d_Mo_put_13 rfl rfl ?_
  refine zr_iaload (t := 1) (k := i) C d_Mo_put_14 (by decide) rfl (Or.inl (hR.kd 25 rfl)) (by omega) (by show i < 4; omega) (by decide) (hR.el 25 rfl (by show i < 4; omega)) ?_
  refine zr_iadd C d_Mo_put_15 ?_
  refine r_iload_n C d_Mo_put_16 rfl rfl ?_
  refine zr_iastore (t := 1) (k := 600 * i + q) C d_Mo_put_17 (by decide) rfl (hR.kd 24 rfl) (by omega) (by show 600 * i + q < 2400; omega) (by decide) ?_
  refine mo_abI 24 hR rfl (fun w hR hF9 => ?_)
  have hF := hF.tr hF9
  refine r_aload_n C d_Mo_put_18 rfl rfl ?_
  refine g_Mo_74 C d_Mo_put_19 hR.1 (hR.ar 25 rfl) ?_
  refine r_iload_n C d_Mo_put_22 rfl rfl ?_
  refine r_dup2 C d_Mo_put_23 rfl rfl ?_
  refine zr_iaload (t := 1) (k := i) C d_Mo_put_24 (by decide) rfl (Or.inl (hR.kd 25 rfl)) (by omega) (by show i < 4; omega) (by decide) (hR.el 25 rfl (by show i < 4; omega)) ?_
  refine r_iconst C d_Mo_put_25 rfl ?_
  refine zr_iadd C d_Mo_put_26 ?_
  refine zr_iastore (t := 1) (k := i) C d_Mo_put_27 (by decide) rfl (hR.kd 25 rfl) (by omega) (by show i < 4; omega) (by decide) ?_
  refine mo_abI 25 hR rfl (fun w hR hF9 => ?_)
  have hF := hF.tr hF9
  exact r_return C d_Mo_put_28 rfl ⟨rfl, hR, hF⟩
end
section
/-! WHAT THE REFERENCE'S METHODS DO TO ITS STATE. Fields: 1 workers, 2 type, 3 length, 4 data, 5 kind, 6 on, 7 c, 8 d, 9 state, 10 failedAt, 11 did, 12 root, 13 round, 14 jobs, 15 of, 16 from, 17 to, 18 parent, 19 child, 20 over, 21 result, 22 base, 23 tasks, 24 queue, 25 queued, 26 done, 27 stolen, 28 idle, 29 victim, 30 grain, 31 steps, 32 turn -/
/-- the queue's places lo .. hi - 1 get what stood one place higher -/
def mShift (S : Ms) (lo hi : Nat) : Ms := (fun k j => if k = 24 then (if lo ≤ j ∧ j < hi then S.1 24 (j + 1) else S.1 24 j) else S.1 k j, S.2)
def mPull (S : Ms) (i k : Nat) : Ms := mShift (sp S 25 i (S.1 25 i - 1)) (600 * i + k) (600 * i + ((S.1 25 i).toNat - 1))
def mNode (S : Ms) (j lo hi ab : Int) : Ms :=
  let t := (S.1 23 0).toNat
  sq (sp (sp (sp (sp (sp (sp (sp S 23 0 (S.1 23 0 + 1)) 15 t j) 16 t lo) 17 t hi) 18 t ab) 19 t (-1)) 20 t 0) 22 t 0
/-- the type of the array of the job j -/
def mTy (S : Ms) (j : Nat) : Int := S.1 2 (S.1 6 j).toNat
def joinF (S : Ms) (j : Nat) (v u : Int64) : Int64 := if S.1 5 j = 1 then (if u < v then v else u) else keptF (mTy S j) (v + u)
def redF (f : Int64 → Int64 → Int64) (g : Nat → Int64) : Nat → Nat → Int64 → Int64
  | _, 0, v => v
  | k, n + 1, v => redF f g (k + 1) n (f v (g k))
/-- the job of a task, its first place, its place behind the last -/
def mOf (S : Ms) (t : Nat) : Nat := (S.1 15 t).toNat
def mLo (S : Ms) (t : Nat) : Nat := (S.1 16 t).toNat
def mHi (S : Ms) (t : Nat) : Nat := (S.1 17 t).toNat
/-- where the array of a job begins -/
def mAt (S : Ms) (j : Nat) : Nat := 24 * (S.1 6 j).toNat
def mReduced (S : Ms) (t : Nat) : Int64 := redF (joinF S (mOf S t)) (fun k => S.2 4 (mAt S (mOf S t) + k)) (mLo S t + 1) (mHi S t - (mLo S t + 1)) (S.2 4 (mAt S (mOf S t) + mLo S t))
def sprF (j a : Nat) : Nat → Nat → Int64 → Ms → Ms
  | _, 0, _, S => S
  | k, n + 1, s, S => sprF j a (k + 1) n (joinF S j s (S.2 4 (a + k))) (sq S 4 (a + k) (joinF S j s (S.2 4 (a + k))))
def mSpread (S : Ms) (t : Nat) : Ms := sprF (mOf S t) (mAt S (mOf S t)) (mLo S t) (mHi S t - mLo S t) (S.2 22 t) S
/-- two neighbours change places -/
def mSwap (S : Ms) (k : Nat) : Ms := sq (sq S 4 (k + 1) (S.2 4 k)) 4 k (S.2 4 (k + 1))
def insF (lo : Nat) : Nat → Ms → Ms
  | 0, S => S
  | k + 1, S => if lo < k + 1 ∧ S.2 4 (k + 1) < S.2 4 k then insF lo k (mSwap S k) else S
def ordF (lo : Nat) : Nat → Nat → Ms → Ms
  | _, 0, S => S
  | i, n + 1, S => ordF lo (i + 1) n (insF lo i S)
def mOrder (S : Ms) (a lo hi : Nat) : Ms := ordF (a + lo) (a + lo + 1) (hi - (lo + 1)) S
def mapF (S : Ms) (j : Nat) (v : Int64) : Int64 := keptF (mTy S j) ((Int32.ofInt (S.1 7 j)).toInt64 * v + (if mTy S j < 4 then (Int32.ofInt (S.1 8 j)).toInt64 else 8 * (Int32.ofInt (S.1 8 j)).toInt64))
def downF (a b : Int64) : Int64 := a / b - (if ¬ a - a / b * b = 0 ∧ ¬ ((a < 0) ↔ (b < 0)) then 1 else 0)
def shaF (S : Ms) (j : Nat) (v : Int64) : Int64 := keptF (mTy S j) (if mTy S j < 4 then (Int32.ofInt (S.1 7 j)).toInt64 / v else downF (64 * (Int32.ofInt (S.1 7 j)).toInt64) v)
/-- the tasks of the job j leave the queue i -/
def endW (i : Nat) (j : Int) : Nat → Nat → Ms → Ms
  | 0, _, S => S
  | n + 1, k, S => if S.1 15 (S.1 24 (600 * i + k)).toNat = j then endW i j n k (mPull S i k) else endW i j n (k + 1) S
def endA (j : Int) : Nat → Nat → Ms → Ms
  | 0, _, S => S
  | n + 1, i, S => endA j n (i + 1) (endW i j (S.1 25 i).toNat 0 S)
def mEnd (S : Ms) (j : Nat) (x : Int) : Ms := endA j (S.1 1 0).toNat 0 (sp (sp S 9 j 2) 10 j x)
/-- MAP and SHARE: the elements from k on, n of them; SHARE ends at a 0 -/
def lfF (j a : Nat) : Nat → Nat → Ms → Bool × Ms
  | _, 0, S => (true, S)
  | k, n + 1, S => if S.1 5 j = 5 ∧ S.2 4 (a + k) = 0 then (false, mEnd S j k) else lfF j a (k + 1) n (sq S 4 (a + k) (if S.1 5 j = 4 then mapF S j (S.2 4 (a + k)) else shaF S j (S.2 4 (a + k))))
def mLeaf (S : Ms) (t : Nat) : Bool × Ms :=
  let j := mOf S t
  if S.1 5 j < 2 ∨ (S.1 5 j = 2 ∧ S.1 13 j = 1) then (true, sq S 21 t (mReduced S t))
  else if S.1 5 j = 2 then (true, mSpread S t)
  else if S.1 5 j = 3 then (true, mOrder S (mAt S j) (mLo S t) (mHi S t))
  else lfF j (mAt S j) (mLo S t) (mHi S t - mLo S t) S
def finE (S : Ms) (i j k : Nat) : Ms := if ¬ S.1 5 j = 2 ∨ S.1 13 j = 2 then sp S 9 j 1 else mPut (sq (sp S 13 j 2) 22 k 0) i k
def finJ (S : Ms) (j p : Nat) : Ms :=
  let S2 := if S.1 13 j = 1 ∧ S.1 5 j < 3 then sq S 21 p (joinF S j (S.2 21 (S.1 19 p).toNat) (S.2 21 ((S.1 19 p).toNat + 1))) else S
  if S.1 5 j = 3 then mOrder S2 (mAt S j) (mLo S p) (mHi S p) else S2
def finF (i j : Nat) : Nat → Nat → Ms → Ms
  | 0, _, S => S
  | n + 1, k, S => if S.1 18 k < 0 then finE S i j k else
    let p := (S.1 18 k).toNat
    if S.1 20 p + 1 < 2 then sp S 20 p (S.1 20 p + 1) else finF i j n p (finJ (sp S 20 p (S.1 20 p + 1)) j p)
def mFinished (S : Ms) (t i : Nat) : Ms := finF i (mOf S t) (t + 1) t S
def mMid (S : Ms) (t : Nat) : Int := (S.1 16 t + S.1 17 t) / 2
def mFork1 (S : Ms) (t : Nat) : Ms :=
  if S.1 13 (mOf S t) = 1 then mNode (sp (mNode S (S.1 15 t) (S.1 16 t) (mMid S t) t) 19 t (S.1 23 0)) (S.1 15 t) (mMid S t) (S.1 17 t) t
  else sq (sq S 22 (S.1 19 t).toNat (S.2 22 t)) 22 ((S.1 19 t).toNat + 1) (joinF S (mOf S t) (S.2 22 t) (S.2 21 (S.1 19 t).toNat))
def mFork (S : Ms) (t i : Nat) : Ms :=
  let S1 := sp (mFork1 S t) 20 t 0
  mPut (mPut S1 i (S1.1 19 t + 1)) i (S1.1 19 t)
def mForks (S : Ms) (t : Nat) : Prop := if S.1 13 (mOf S t) = 1 then S.1 30 0 < S.1 17 t - S.1 16 t else 0 ≤ S.1 19 t
noncomputable def mPerform (S : Ms) (t i : Nat) : Ms :=
  let S1 := sp (sp S 11 (mOf S t) (S.1 11 (mOf S t) + 1)) 26 i (S.1 26 i + 1)
  @ite _ (mForks S t) (Classical.propDecidable _) (mFork S1 t i) (if (mLeaf S1 t).1 then mFinished (mLeaf S1 t).2 t i else (mLeaf S1 t).2)
/-- the first worker with a task, from the victim v of the worker i on: how far -/
def vicF (S : Ms) (v W : Nat) : Nat → Nat → Option Nat
  | 0, _ => none
  | n + 1, k => if S.1 25 ((v + k) % W) = 0 then vicF S v W n (k + 1) else some ((v + k) % W)
/-- a step: not idle?, and the state behind it -/
noncomputable def mTurns (S : Ms) : Bool × Ms :=
  let W := (S.1 1 0).toNat
  let i := (S.1 32 0).toNat
  let S1 := sp (sp S 32 0 ((S.1 32 0 + 1) % S.1 1 0)) 31 0 (S.1 31 0 + 1)
  if 0 < S.1 25 i then
    let k := (S.1 25 i).toNat - 1
    (true, mPerform (mPull S1 i k) (S.1 24 (600 * i + k)).toNat i)
  else match vicF S1 (S.1 29 i).toNat W W 1 with
    | some v => (true, mPerform (mPull (sp (sp S1 29 i v) 27 i (S.1 27 i + 1)) v 0) (S.1 24 (600 * v)).toNat i)
    | none => (false, sp S1 28 i (S.1 28 i + 1))
end
section
/-! THE REFERENCE'S METHODS, II: pull, node, joined, down, mapped, shared, order, reduced, spread -/
theorem sp_same (S : Ms) (k j : Nat) (v : Int) : (sp S k j v).1 k j = v := by show (if k = k then (if j = j then v else S.1 k j) else S.1 k j) = v; simp
theorem sp_j (S : Ms) (k : Nat) {j j' : Nat} (v : Int) (h : j' ≠ j) : (sp S k j v).1 k j' = S.1 k j' := by show (if k = k then (if j' = j then v else S.1 k j') else S.1 k j') = _; simp [h]
theorem sp_k (S : Ms) {k k' : Nat} (j j' : Nat) (v : Int) (h : k' ≠ k) : (sp S k j v).1 k' j' = S.1 k' j' := by show (if k' = k then (if j' = j then v else S.1 k' j') else S.1 k' j') = _; simp [h]
theorem sq_same (S : Ms) (k j : Nat) (v : Int64) : (sq S k j v).2 k j = v := by show (if k = k then (if j = j then v else S.2 k j) else S.2 k j) = v; simp
theorem sq_j (S : Ms) (k : Nat) {j j' : Nat} (v : Int64) (h : j' ≠ j) : (sq S k j v).2 k j' = S.2 k j' := by show (if k = k then (if j' = j then v else S.2 k j') else S.2 k j') = _; simp [h]
theorem sq_k (S : Ms) {k k' : Nat} (j j' : Nat) (v : Int64) (h : k' ≠ k) : (sq S k j v).2 k' j' = S.2 k' j' := by show (if k' = k then (if j' = j then v else S.2 k' j') else S.2 k' j') = _; simp [h]
theorem mShift_k (S : Ms) (lo hi : Nat) {k : Nat} (j : Nat) (h : k ≠ 24) : (mShift S lo hi).1 k j = S.1 k j := if_neg h
theorem mShift_24 (S : Ms) (lo hi j : Nat) : (mShift S lo hi).1 24 j = if lo ≤ j ∧ j < hi then S.1 24 (j + 1) else S.1 24 j := rfl
theorem mShift_self (S : Ms) (lo : Nat) : mShift S lo lo = S := by
  refine Prod.ext (funext fun k => funext fun j => ?_) rfl
  show (if k = 24 then (if lo ≤ j ∧ j < lo then S.1 24 (j + 1) else S.1 24 j) else S.1 k j) = S.1 k j
  by_cases h : k = 24
  · subst h; rw [if_pos rfl, if_neg (by omega)]
  · rw [if_neg h]
theorem mShift_step (S : Ms) {lo p : Nat} (h : lo ≤ p) : sp (mShift S lo p) 24 p ((mShift S lo p).1 24 (p + 1)) = mShift S lo (p + 1) := by
  have e : (mShift S lo p).1 24 (p + 1) = S.1 24 (p + 1) := by
    rw [mShift_24, if_neg (by omega)]
  rw [e]
  refine Prod.ext (funext fun k => funext fun j => ?_) rfl
  show (if k = 24 then (if j = p then S.1 24 (p + 1) else (if k = 24 then (if lo ≤ j ∧ j < p then S.1 24 (j + 1) else S.1 24 j) else S.1 k j)) else (if k = 24 then (if lo ≤ j ∧ j < p then S.1 24 (j + 1) else S.1 24 j) else S.1 k j)) = (if k = 24 then (if lo ≤ j ∧ j < p + 1 then S.1 24 (j + 1) else S.1 24 j) else S.1 k j)
  by_cases h1 : k = 24
  · subst h1
    rw [if_pos rfl, if_pos rfl, if_pos rfl]
    by_cases h2 : j = p
    · subst h2; rw [if_pos rfl, if_pos (by omega)]
    · rw [if_neg h2]
      by_cases h3 : lo ≤ j ∧ j < p
      · rw [if_pos h3, if_pos (by omega)]
      · rw [if_neg h3, if_neg (by omega)]
  · rw [if_neg h1, if_neg h1, if_neg h1]
set_option maxRecDepth 20000 in
theorem m_pull {G : fxG} (d : Nat) {S : Ms} {m : Nat} {w : fxW} (hR : MoR S m w) (i k q : Nat) (hi : i < 4) (hq : S.1 25 i = (q : Int)) (hk : k < q) (hq6 : q ≤ 600) : fxM G d y_Mo_pull [.ref m, zi (i : Int), zi (k : Int)] w (moRet m w (zi (S.1 24 (600 * i + k))) (mPull S i k)) := by
  refine fxM.of cc_Mo_pull 5 (some .int) [] (by decide +kernel) w_Mo_pull (Nat.le_of_ble_eq_true rfl) ?_
  intro x C ht hu
  have e : mPull S i k = mShift (sp S 25 i (S.1 25 i - 1)) (600 * i + k) (600 * i + (q - 1)) := by unfold mPull; rw [hq]; rfl
  rw [e]
  have hF : MoF m w w := MoF.rf
  generalize hQ : moRet m w (zi (S.1 24 (600 * i + k))) (mShift (sp S 25 i (S.1 25 i - 1)) (600 * i + k) (600 * i + (q - 1))) = QQ
  have loop : ∀ (n p : Nat) (w1 : fxW), k ≤ p → p + n = q - 1 → MoR (mShift (sp S 25 i (S.1 25 i - 1)) (600 * i + k) (600 * i + p)) m w1 → MoF m w w1 → fxR G 5 x (fxQ G x QQ) w1 26 [(4, zi (p : Int)), (3, zi (S.1 24 (600 * i + k))), (0, .ref m), (1, zi (i : Int)), (2, zi (k : Int))] [] := by
    intro n
    induction n with
    | zero =>
      intro p w h1 h2 hR hF
      have e5 : (mShift (sp S 25 i (S.1 25 i - 1)) (600 * i + k) (600 * i + p)).1 25 i = S.1 25 i - 1 := by
        rw [mShift_k _ _ _ _ (by decide), sp_same]
      refine r_iload C d_Mo_pull_26 rfl ?_
      refine r_aload_n C d_Mo_pull_28 rfl rfl ?_
      refine g_Mo_74 C d_Mo_pull_29 hR.1 (hR.ar 25 rfl) ?_
      refine r_iload_n C d_Mo_pull_32 rfl rfl ?_
      refine zr_iaload (t := 1) (k := i) C d_Mo_pull_33 (by decide) rfl (Or.inl (hR.kd 25 rfl)) (by omega) (by show i < 4; omega) (by decide) (hR.el 25 rfl (by show i < 4; omega)) ?_
      refine zr_icmp_ge (tgt := 71) C d_Mo_pull_34 (by decide) (by unfold zok; omega) (by rw [e5]; unfold zok; omega) (fun c_34 => ?_) (fun c_34 => ?_)
      · refine r_iload_n C d_Mo_pull_71 rfl rfl ?_
        rw [← hQ]
        exact r_ireturn C d_Mo_pull_72 rfl ⟨rfl, by rw [show q - 1 = p by omega]; exact hR, hF⟩
      · exact absurd c_34 (by rw [e5]; omega)
    | succ n ih =>
      intro p w h1 h2 hR hF
      have e5 : (mShift (sp S 25 i (S.1 25 i - 1)) (600 * i + k) (600 * i + p)).1 25 i = S.1 25 i - 1 := by
        rw [mShift_k _ _ _ _ (by decide), sp_same]
      refine r_iload C d_Mo_pull_26 rfl ?_
      refine r_aload_n C d_Mo_pull_28 rfl rfl ?_
      refine g_Mo_74 C d_Mo_pull_29 hR.1 (hR.ar 25 rfl) ?_
      refine r_iload_n C d_Mo_pull_32 rfl rfl ?_
      refine zr_iaload (t := 1) (k := i) C d_Mo_pull_33 (by decide) rfl (Or.inl (hR.kd 25 rfl)) (by omega) (by show i < 4; omega) (by decide) (hR.el 25 rfl (by show i < 4; omega)) ?_
      refine zr_icmp_ge (tgt := 71) C d_Mo_pull_34 (by decide) (by unfold zok; omega) (by rw [e5]; unfold zok; omega) (fun c_34 => ?_) (fun c_34 => ?_)
      · exact absurd c_34 (by rw [e5]; omega)
      · refine r_aload_n C d_Mo_pull_37 rfl rfl ?_
        refine g_Mo_71 C d_Mo_pull_38 hR.1 (hR.ar 24 rfl) ?_
        refine r_sipush (v := Int32.ofInt 600) C d_Mo_pull_41 (by decide) ?_
        refine r_iload_n C d_Mo_pull_44 rfl rfl ?_
        refine zr_imul C d_Mo_pull_45 ?_
        refine r_iload C d_Mo_pull_46 rfl ?_
        refine zr_iadd C d_Mo_pull_48 ?_
        refine r_aload_n C d_Mo_pull_49 rfl rfl ?_
        refine g_Mo_71 C d_Mo_pull_50 hR.1 (hR.ar 24 rfl) ?_
        refine r_sipush (v := Int32.ofInt 600) C d_Mo_pull_53 (by decide) ?_
        refine r_iload_n C d_Mo_pull_56 rfl rfl ?_
        refine zr_imul C d_Mo_pull_57 ?_
        refine r_iload C d_Mo_pull_58 rfl ?_
        refine zr_iadd C d_Mo_pull_60 ?_
        refine r_iconst C d_Mo_pull_61 rfl ?_
        refine zr_iadd C d_Mo_pull_62 ?_
        refine zr_iaload (t := 1) (k := 600 * i + p + 1) C d_Mo_pull_63 (by decide) rfl (Or.inl (hR.kd 24 rfl)) (by omega) (by show 600 * i + p + 1 < 2400; omega) (by decide) (hR.el 24 rfl (by show 600 * i + p + 1 < 2400; omega)) ?_
        refine zr_iastore (t := 1) (k := 600 * i + p) C d_Mo_pull_64 (by decide) rfl (hR.kd 24 rfl) (by omega) (by show 600 * i + p < 2400; omega) (by decide) ?_
        refine mo_abI 24 hR rfl (fun w hR hF9 => ?_)
        have hF := hF.tr hF9
        refine zr_iinc (ls' := [(4, _), (3, _), (0, _), (1, _), (2, _)]) C d_Mo_pull_65 rfl (by decide) rfl ?_
        refine r_goto (tgt := 26) C d_Mo_pull_68 (by decide) ?_
        exact ih (p + 1) w (by omega) (by omega) (by rw [← Nat.add_assoc, ← mShift_step _ (by omega)]; exact hR) hF
  show fxR G 5 x _ w 0 [(0, .ref m), (1, zi (i : Int)), (2, zi (k : Int))] []
  refine r_aload_n C d_Mo_pull_0 rfl rfl ?_
  refine g_Mo_71 C d_Mo_pull_1 hR.1 (hR.ar 24 rfl) ?_
  refine r_sipush (v := Int32.ofInt 600) C d_Mo_pull_4 (by decide) ?_
  refine r_iload_n C d_Mo_pull_7 rfl rfl ?_
  refine zr_imul C d_Mo_pull_8 ?_
  refine r_iload_n C d_Mo_pull_9 rfl rfl ?_
  refine zr_iadd C d_Mo_pull_10 ?_
  refine zr_iaload (t := 1) (k := 600 * i + k) C d_Mo_pull_11 (by decide) rfl (Or.inl (hR.kd 24 rfl)) (by omega) (by show 600 * i + k < 2400; omega) (by decide) (hR.el 24 rfl (by show 600 * i + k < 2400; omega)) ?_
  refine r_istore_n (ls' := [(3, _), (0, _), (1, _), (2, _)]) C d_Mo_pull_12 rfl (by decide) rfl ?_
  refine r_aload_n C d_Mo_pull_13 rfl rfl ?_
  refine g_Mo_74 C d_Mo_pull_14 hR.1 (hR.ar 25 rfl) ?_
  refine r_iload_n C d_Mo_pull_17 rfl rfl ?_
  refine r_dup2 C d_Mo_pull_18 rfl rfl ?_
  refine zr_iaload (t := 1) (k := i) C d_Mo_pull_19 (by decide) rfl (Or.inl (hR.kd 25 rfl)) (by omega) (by show i < 4; omega) (by decide) (hR.el 25 rfl (by show i < 4; omega)) ?_
  refine r_iconst C d_Mo_pull_20 rfl ?_
  refine zr_isub C d_Mo_pull_21 ?_
  refine zr_iastore (t := 1) (k := i) C d_Mo_pull_22 (by decide) rfl (hR.kd 25 rfl) (by omega) (by show i < 4; omega) (by decide) ?_
  refine mo_abI 25 hR rfl (fun w hR hF9 => ?_)
  have hF := hF.tr hF9
  refine r_iload_n C d_Mo_pull_23 rfl rfl ?_
  refine r_istore (ls' := [(4, _), (3, _), (0, _), (1, _), (2, _)]) C d_Mo_pull_24 (by decide) rfl ?_
  exact loop (q - 1 - k) k w (Nat.le_refl k) (by omega) (by rw [mShift_self]; exact hR) hF
set_option maxRecDepth 20000 in
theorem m_node {G : fxG} (d : Nat) {S : Ms} {m : Nat} {w : fxW} (hR : MoR S m w) (j lo hi ab : Int) (t : Nat) (ht0 : S.1 23 0 = (t : Int)) (ht6 : t < 600) : fxM G d y_Mo_node [.ref m, zi j, zi lo, zi hi, zi ab] w (moRet m w (zi (S.1 23 0)) (mNode S j lo hi ab)) := by
  refine fxM.of cc_Mo_node 6 (some .int) [] (by decide +kernel) w_Mo_node (Nat.le_of_ble_eq_true rfl) ?_
  intro x C ht hu
  have e : mNode S j lo hi ab = sq (sp (sp (sp (sp (sp (sp (sp S 23 0 (S.1 23 0 + 1)) 15 t j) 16 t lo) 17 t hi) 18 t ab) 19 t (-1)) 20 t 0) 22 t 0 := by unfold mNode; rw [ht0]; rfl
  rw [e]
  have hF : MoF m w w := MoF.rf
  show fxR G 6 x _ w 0 [(0, .ref m), (1, zi j), (2, zi lo), (3, zi hi), (4, zi ab)] []
  refine r_aload_n C d_Mo_node_0 rfl rfl ?_
  refine g_Mo_130 C d_Mo_node_1 hR.1 (hR.sc 23 rfl) ?_
  refine r_istore (ls' := [(5, _), (0, _), (1, _), (2, _), (3, _), (4, _)]) C d_Mo_node_4 (by decide) rfl ?_
  refine r_aload_n C d_Mo_node_6 rfl rfl ?_
  refine r_dup C d_Mo_node_7 rfl ?_
  refine g_Mo_130 C d_Mo_node_8 hR.1 (hR.sc 23 rfl) ?_
  refine r_iconst C d_Mo_node_11 rfl ?_
  refine zr_iadd C d_Mo_node_12 ?_
  refine p_Mo_130 C d_Mo_node_13 rfl rfl hR.1 ?_
  refine mo_abS 23 hR rfl (fun w hR hF9 => ?_)
  have hF := hF.tr hF9
  refine r_aload_n C d_Mo_node_16 rfl rfl ?_
  refine g_Mo_47 C d_Mo_node_17 hR.1 (hR.ar 15 rfl) ?_
  refine r_iload C d_Mo_node_20 rfl ?_
  refine r_iload_n C d_Mo_node_22 rfl rfl ?_
  refine zr_iastore (t := 1) (k := t) C d_Mo_node_23 (by decide) rfl (hR.kd 15 rfl) (by omega) (by show t < 600; omega) (by decide) ?_
  refine mo_abI 15 hR rfl (fun w hR hF9 => ?_)
  have hF := hF.tr hF9
  refine r_aload_n C d_Mo_node_24 rfl rfl ?_
  refine g_Mo_50 C d_Mo_node_25 hR.1 (hR.ar 16 rfl) ?_
  refine r_iload C d_Mo_node_28 rfl ?_
  refine r_iload_n C d_Mo_node_30 rfl rfl ?_
  refine zr_iastore (t := 1) (k := t) C d_Mo_node_31 (by decide) rfl (hR.kd 16 rfl) (by omega) (by show t < 600; omega) (by decide) ?_
  refine mo_abI 16 hR rfl (fun w hR hF9 => ?_)
  have hF := hF.tr hF9
  refine r_aload_n C d_Mo_node_32 rfl rfl ?_
  refine g_Mo_53 C d_Mo_node_33 hR.1 (hR.ar 17 rfl) ?_
  refine r_iload C d_Mo_node_36 rfl ?_
  refine r_iload_n C d_Mo_node_38 rfl rfl ?_
  refine zr_iastore (t := 1) (k := t) C d_Mo_node_39 (by decide) rfl (hR.kd 17 rfl) (by omega) (by show t < 600; omega) (by decide) ?_
  refine mo_abI 17 hR rfl (fun w hR hF9 => ?_)
  have hF := hF.tr hF9
  refine r_aload_n C d_Mo_node_40 rfl rfl ?_
  refine g_Mo_56 C d_Mo_node_41 hR.1 (hR.ar 18 rfl) ?_
  refine r_iload C d_Mo_node_44 rfl ?_
  refine r_iload C d_Mo_node_46 rfl ?_
  refine zr_iastore (t := 1) (k := t) C d_Mo_node_48 (by decide) rfl (hR.kd 18 rfl) (by omega) (by show t < 600; omega) (by decide) ?_
  refine mo_abI 18 hR rfl (fun w hR hF9 => ?_)
  have hF := hF.tr hF9
  refine r_aload_n C d_Mo_node_49 rfl rfl ?_
  refine g_Mo_59 C d_Mo_node_50 hR.1 (hR.ar 19 rfl) ?_
  refine r_iload C d_Mo_node_53 rfl ?_
  refine r_iconst C d_Mo_node_55 rfl ?_
  refine zr_iastore (t := 1) (k := t) C d_Mo_node_56 (by decide) rfl (hR.kd 19 rfl) (by omega) (by show t < 600; omega) (by decide) ?_
  refine mo_abI 19 hR rfl (fun w hR hF9 => ?_)
  have hF := hF.tr hF9
  refine r_aload_n C d_Mo_node_57 rfl rfl ?_
  refine g_Mo_62 C d_Mo_node_58 hR.1 (hR.ar 20 rfl) ?_
  refine r_iload C d_Mo_node_61 rfl ?_
  refine r_iconst C d_Mo_node_63 rfl ?_
  refine zr_iastore (t := 1) (k := t) C d_Mo_node_64 (by decide) rfl (hR.kd 20 rfl) (by omega) (by show t < 600; omega) (by decide) ?_
  refine mo_abI 20 hR rfl (fun w hR hF9 => ?_)
  have hF := hF.tr hF9
  refine r_aload_n C d_Mo_node_65 rfl rfl ?_
  refine g_Mo_68 C d_Mo_node_66 hR.1 (hR.arL 22 rfl) ?_
  refine r_iload C d_Mo_node_69 rfl ?_
  refine r_lconst (v := 0) C d_Mo_node_71 (by decide) ?_
  refine zr_lastore (t := 0) (k := t) C d_Mo_node_72 (by decide) rfl (hR.kdL 22 rfl) (by omega) (by show t < 600; omega) (by decide) ?_
  refine mo_abL 22 hR rfl (fun w hR hF9 => ?_)
  have hF := hF.tr hF9
  refine r_iload C d_Mo_node_73 rfl ?_
  exact r_ireturn C d_Mo_node_75 rfl ⟨rfl, hR, hF⟩
set_option maxRecDepth 20000 in
theorem m_joined {G : fxG} (d : Nat) {S : Ms} {m : Nat} {w : fxW} (hR : MoR S m w) (j o : Nat) (v u : Int64) (hd1 : 1 ≤ d) (hj : j < 12) (hk : zok (S.1 5 j)) (ho : S.1 6 j = (o : Int)) (ho4 : o < 4) (hty : zok (S.1 2 o)) (hty0 : 0 ≤ S.1 2 o) : fxM G d y_Mo_joined [.ref m, zi (j : Int), .long v, .long u] w (fxPure (.long (joinF S j v u)) w) := by
  refine fxM.of cc_Mo_joined 6 (some .long) [] (by decide +kernel) w_Mo_joined (Nat.le_of_ble_eq_true rfl) ?_
  intro x C ht hu
  have et : mTy S j = S.1 2 o := by unfold mTy; rw [ho]; rfl
  show fxR G 6 x _ w 0 [(0, .ref m), (1, zi (j : Int)), (2, .long v), (4, .long u)] []
  refine r_aload_n C d_Mo_joined_0 rfl rfl ?_
  refine g_Mo_20 C d_Mo_joined_1 hR.1 (hR.ar 5 rfl) ?_
  refine r_iload_n C d_Mo_joined_4 rfl rfl ?_
  refine zr_iaload (t := 1) (k := j) C d_Mo_joined_5 (by decide) rfl (Or.inl (hR.kd 5 rfl)) (by omega) (by show j < 12; omega) (by decide) (hR.el 5 rfl (by show j < 12; omega)) ?_
  refine r_iconst C d_Mo_joined_6 rfl ?_
  refine zr_icmp_ne (tgt := 24) C d_Mo_joined_7 (by decide) hk (by unfold zok; omega) (fun c_7 => ?_) (fun c_7 => ?_)
  · refine r_aload_n C d_Mo_joined_24 rfl rfl ?_
    refine g_Mo_7 C d_Mo_joined_25 hR.1 (hR.ar 2 rfl) ?_
    refine r_aload_n C d_Mo_joined_28 rfl rfl ?_
    refine g_Mo_23 C d_Mo_joined_29 hR.1 (hR.ar 6 rfl) ?_
    refine r_iload_n C d_Mo_joined_32 rfl rfl ?_
    refine zr_iaload (t := 1) (k := j) C d_Mo_joined_33 (by decide) rfl (Or.inl (hR.kd 6 rfl)) (by omega) (by show j < 12; omega) (by decide) (hR.el 6 rfl (by show j < 12; omega)) ?_
    rw [ho]
    refine zr_iaload (t := 1) (k := o) C d_Mo_joined_34 (by decide) rfl (Or.inl (hR.kd 2 rfl)) (by omega) (by show o < 4; omega) (by decide) (hR.el 2 rfl (by show o < 4; omega)) ?_
    refine r_lload_n C d_Mo_joined_35 rfl rfl ?_
    refine r_lload C d_Mo_joined_36 rfl ?_
    refine r_ladd C d_Mo_joined_38 ?_
    refine c_Mo_122 C d_Mo_joined_39 (m_Mo_kept 0 w _ _ hty hty0) (by omega) (Nat.le_of_ble_eq_true rfl) (fxPure.k1 ?_) fxPure.k2
    exact r_lreturn C d_Mo_joined_42 rfl ⟨by unfold joinF; rw [if_neg c_7, et], rfl⟩
  · refine r_lload_n C d_Mo_joined_10 rfl rfl ?_
    refine r_lload C d_Mo_joined_11 rfl ?_
    refine zr_lif_le (tgt := 21) C d_Mo_joined_13 d_Mo_joined_14 (by decide) (fun c_13 => ?_) (fun c_13 => ?_)
    · refine r_lload C d_Mo_joined_21 rfl ?_
      exact r_lreturn C d_Mo_joined_23 rfl ⟨by unfold joinF; rw [if_pos c_7, if_neg (Int64.not_lt.mpr c_13)], rfl⟩
    · refine r_lload_n C d_Mo_joined_17 rfl rfl ?_
      refine r_goto (tgt := 23) C d_Mo_joined_18 (by decide) ?_
      exact r_lreturn C d_Mo_joined_23 rfl ⟨by unfold joinF; rw [if_pos c_7, if_pos (Int64.not_le.mp c_13)], rfl⟩
set_option maxRecDepth 20000 in
theorem m_down {G : fxG} (d : Nat) (w : fxW) (a b : Int64) (hb : ¬ b = 0) : fxM G d y_Mo_down [.long a, .long b] w (fxPure (.long (downF a b)) w) := by
  refine fxM.of cc_Mo_down 4 (some .long) [] (by decide +kernel) w_Mo_down (Nat.le_of_ble_eq_true rfl) ?_
  intro x C ht hu
  show fxR G 4 x _ w 0 [(0, .long a), (2, .long b)] []
  refine r_lload_n C d_Mo_down_0 rfl rfl ?_
  refine r_lload_n C d_Mo_down_1 rfl rfl ?_
  refine r_ldiv C d_Mo_down_2 hb ?_
  refine r_lload_n C d_Mo_down_3 rfl rfl ?_
  refine r_lload_n C d_Mo_down_4 rfl rfl ?_
  refine r_lrem C d_Mo_down_5 hb ?_
  refine r_lconst (v := 0) C d_Mo_down_6 (by decide) ?_
  refine zr_lif_eq (tgt := 40) C d_Mo_down_7 d_Mo_down_8 (by decide) (fun c_7 => ?_) (fun c_7 => ?_)
  · refine r_iconst C d_Mo_down_40 rfl ?_
    refine r_i2l C d_Mo_down_41 rfl ?_
    refine r_lsub C d_Mo_down_42 ?_
    exact r_lreturn C d_Mo_down_43 rfl ⟨by unfold downF; rw [if_neg (fun q => q.1 c_7)]; rfl, rfl⟩
  · refine r_lload_n C d_Mo_down_11 rfl rfl ?_
    refine r_lconst (v := 0) C d_Mo_down_12 (by decide) ?_
    refine zr_lif_ge (tgt := 21) C d_Mo_down_13 d_Mo_down_14 (by decide) (fun c_13 => ?_) (fun c_13 => ?_)
    · refine r_iconst C d_Mo_down_21 rfl ?_
      refine r_lload_n C d_Mo_down_22 rfl rfl ?_
      refine r_lconst (v := 0) C d_Mo_down_23 (by decide) ?_
      refine zr_lif_ge (tgt := 32) C d_Mo_down_24 d_Mo_down_25 (by decide) (fun c_24 => ?_) (fun c_24 => ?_)
      · refine r_iconst C d_Mo_down_32 rfl ?_
        refine zr_icmp_eq (tgt := 40) C d_Mo_down_33 (by decide) (by unfold zok; omega) (by unfold zok; omega) (fun c_33 => ?_) (fun c_33 => ?_)
        · refine r_iconst C d_Mo_down_40 rfl ?_
          refine r_i2l C d_Mo_down_41 rfl ?_
          refine r_lsub C d_Mo_down_42 ?_
          exact r_lreturn C d_Mo_down_43 rfl ⟨by unfold downF; rw [if_neg (fun q => q.2 ⟨fun z => absurd z (Int64.not_lt.mpr c_13), fun z => absurd z (Int64.not_lt.mpr c_24)⟩)]; rfl, rfl⟩
        · exact absurd rfl c_33
      · refine r_iconst C d_Mo_down_28 rfl ?_
        refine r_goto (tgt := 33) C d_Mo_down_29 (by decide) ?_
        refine zr_icmp_eq (tgt := 40) C d_Mo_down_33 (by decide) (by unfold zok; omega) (by unfold zok; omega) (fun c_33 => ?_) (fun c_33 => ?_)
        · exact absurd c_33 (by decide)
        · refine r_iconst C d_Mo_down_36 rfl ?_
          refine r_goto (tgt := 41) C d_Mo_down_37 (by decide) ?_
          refine r_i2l C d_Mo_down_41 rfl ?_
          refine r_lsub C d_Mo_down_42 ?_
          exact r_lreturn C d_Mo_down_43 rfl ⟨by unfold downF; rw [if_pos ⟨c_7, fun z => absurd (z.mpr (Int64.not_le.mp c_24)) (Int64.not_lt.mpr c_13)⟩]; rfl, rfl⟩
    · refine r_iconst C d_Mo_down_17 rfl ?_
      refine r_goto (tgt := 22) C d_Mo_down_18 (by decide) ?_
      refine r_lload_n C d_Mo_down_22 rfl rfl ?_
      refine r_lconst (v := 0) C d_Mo_down_23 (by decide) ?_
      refine zr_lif_ge (tgt := 32) C d_Mo_down_24 d_Mo_down_25 (by decide) (fun c_24 => ?_) (fun c_24 => ?_)
      · refine r_iconst C d_Mo_down_32 rfl ?_
        refine zr_icmp_eq (tgt := 40) C d_Mo_down_33 (by decide) (by unfold zok; omega) (by unfold zok; omega) (fun c_33 => ?_) (fun c_33 => ?_)
        · exact absurd c_33 (by decide)
        · refine r_iconst C d_Mo_down_36 rfl ?_
          refine r_goto (tgt := 41) C d_Mo_down_37 (by decide) ?_
          refine r_i2l C d_Mo_down_41 rfl ?_
          refine r_lsub C d_Mo_down_42 ?_
          exact r_lreturn C d_Mo_down_43 rfl ⟨by unfold downF; rw [if_pos ⟨c_7, fun z => absurd (z.mp (Int64.not_le.mp c_13)) (Int64.not_lt.mpr c_24)⟩]; rfl, rfl⟩
      · refine r_iconst C d_Mo_down_28 rfl ?_
        refine r_goto (tgt := 33) C d_Mo_down_29 (by decide) ?_
        refine zr_icmp_eq (tgt := 40) C d_Mo_down_33 (by decide) (by unfold zok; omega) (by unfold zok; omega) (fun c_33 => ?_) (fun c_33 => ?_)
        · refine r_iconst C d_Mo_down_40 rfl ?_
          refine r_i2l C d_Mo_down_41 rfl ?_
          refine r_lsub C d_Mo_down_42 ?_
          exact r_lreturn C d_Mo_down_43 rfl ⟨by unfold downF; rw [if_neg (fun q => q.2 ⟨fun _ => Int64.not_le.mp c_24, fun _ => Int64.not_le.mp c_13⟩)]; rfl, rfl⟩
        · exact absurd rfl c_33
set_option maxRecDepth 20000 in
theorem m_mapped {G : fxG} (d : Nat) {S : Ms} {m : Nat} {w : fxW} (hR : MoR S m w) (j o : Nat) (v : Int64) (hd1 : 1 ≤ d) (hj : j < 12) (ho : S.1 6 j = (o : Int)) (ho4 : o < 4) (hty : zok (S.1 2 o)) (hty0 : 0 ≤ S.1 2 o) : fxM G d y_Mo_mapped [.ref m, zi (j : Int), .long v] w (fxPure (.long (mapF S j v)) w) := by
  refine fxM.of cc_Mo_mapped 5 (some .long) [] (by decide +kernel) w_Mo_mapped (Nat.le_of_ble_eq_true rfl) ?_
  intro x C ht hu
  have et : mTy S j = S.1 2 o := by unfold mTy; rw [ho]; rfl
  show fxR G 5 x _ w 0 [(0, .ref m), (1, zi (j : Int)), (2, .long v)] []
  refine r_aload_n C d_Mo_mapped_0 rfl rfl ?_
  refine g_Mo_7 C d_Mo_mapped_1 hR.1 (hR.ar 2 rfl) ?_
  refine r_aload_n C d_Mo_mapped_4 rfl rfl ?_
  refine g_Mo_23 C d_Mo_mapped_5 hR.1 (hR.ar 6 rfl) ?_
  refine r_iload_n C d_Mo_mapped_8 rfl rfl ?_
  refine zr_iaload (t := 1) (k := j) C d_Mo_mapped_9 (by decide) rfl (Or.inl (hR.kd 6 rfl)) (by omega) (by show j < 12; omega) (by decide) (hR.el 6 rfl (by show j < 12; omega)) ?_
  rw [ho]
  refine zr_iaload (t := 1) (k := o) C d_Mo_mapped_10 (by decide) rfl (Or.inl (hR.kd 2 rfl)) (by omega) (by show o < 4; omega) (by decide) (hR.el 2 rfl (by show o < 4; omega)) ?_
  refine r_istore (ls' := [(4, _), (0, _), (1, _), (2, _)]) C d_Mo_mapped_11 (by decide) rfl ?_
  refine r_iload C d_Mo_mapped_13 rfl ?_
  refine r_aload_n C d_Mo_mapped_15 rfl rfl ?_
  refine g_Mo_26 C d_Mo_mapped_16 hR.1 (hR.ar 7 rfl) ?_
  refine r_iload_n C d_Mo_mapped_19 rfl rfl ?_
  refine zr_iaload (t := 1) (k := j) C d_Mo_mapped_20 (by decide) rfl (Or.inl (hR.kd 7 rfl)) (by omega) (by show j < 12; omega) (by decide) (hR.el 7 rfl (by show j < 12; omega)) ?_
  refine r_i2l C d_Mo_mapped_21 rfl ?_
  refine r_lload_n C d_Mo_mapped_22 rfl rfl ?_
  refine r_lmul C d_Mo_mapped_23 ?_
  refine r_iload C d_Mo_mapped_24 rfl ?_
  refine r_iconst C d_Mo_mapped_26 rfl ?_
  refine zr_icmp_ge (tgt := 40) C d_Mo_mapped_27 (by decide) hty (by unfold zok; omega) (fun c_27 => ?_) (fun c_27 => ?_)
  · refine r_ldc2 (v := 8) C d_Mo_mapped_40 (fxTW_in 952 (by decide +kernel) rfl) ?_
    refine r_aload_n C d_Mo_mapped_43 rfl rfl ?_
    refine g_Mo_29 C d_Mo_mapped_44 hR.1 (hR.ar 8 rfl) ?_
    refine r_iload_n C d_Mo_mapped_47 rfl rfl ?_
    refine zr_iaload (t := 1) (k := j) C d_Mo_mapped_48 (by decide) rfl (Or.inl (hR.kd 8 rfl)) (by omega) (by show j < 12; omega) (by decide) (hR.el 8 rfl (by show j < 12; omega)) ?_
    refine r_i2l C d_Mo_mapped_49 rfl ?_
    refine r_lmul C d_Mo_mapped_50 ?_
    refine r_ladd C d_Mo_mapped_51 ?_
    refine c_Mo_122 C d_Mo_mapped_52 (m_Mo_kept 0 w _ _ hty hty0) (by omega) (Nat.le_of_ble_eq_true rfl) (fxPure.k1 ?_) fxPure.k2
    exact r_lreturn C d_Mo_mapped_55 rfl ⟨by unfold mapF; rw [et, if_neg (by omega)], rfl⟩
  · refine r_aload_n C d_Mo_mapped_30 rfl rfl ?_
    refine g_Mo_29 C d_Mo_mapped_31 hR.1 (hR.ar 8 rfl) ?_
    refine r_iload_n C d_Mo_mapped_34 rfl rfl ?_
    refine zr_iaload (t := 1) (k := j) C d_Mo_mapped_35 (by decide) rfl (Or.inl (hR.kd 8 rfl)) (by omega) (by show j < 12; omega) (by decide) (hR.el 8 rfl (by show j < 12; omega)) ?_
    refine r_i2l C d_Mo_mapped_36 rfl ?_
    refine r_goto (tgt := 51) C d_Mo_mapped_37 (by decide) ?_
    refine r_ladd C d_Mo_mapped_51 ?_
    refine c_Mo_122 C d_Mo_mapped_52 (m_Mo_kept 0 w _ _ hty hty0) (by omega) (Nat.le_of_ble_eq_true rfl) (fxPure.k1 ?_) fxPure.k2
    exact r_lreturn C d_Mo_mapped_55 rfl ⟨by unfold mapF; rw [et, if_pos (by omega)], rfl⟩
set_option maxRecDepth 20000 in
theorem m_shared {G : fxG} (d : Nat) {S : Ms} {m : Nat} {w : fxW} (hR : MoR S m w) (j o : Nat) (v : Int64) (hv : ¬ v = 0) (hd1 : 1 ≤ d) (hj : j < 12) (ho : S.1 6 j = (o : Int)) (ho4 : o < 4) (hty : zok (S.1 2 o)) (hty0 : 0 ≤ S.1 2 o) : fxM G d y_Mo_shared [.ref m, zi (j : Int), .long v] w (fxPure (.long (shaF S j v)) w) := by
  refine fxM.of cc_Mo_shared 5 (some .long) [] (by decide +kernel) w_Mo_shared (Nat.le_of_ble_eq_true rfl) ?_
  intro x C ht hu
  have et : mTy S j = S.1 2 o := by unfold mTy; rw [ho]; rfl
  show fxR G 5 x _ w 0 [(0, .ref m), (1, zi (j : Int)), (2, .long v)] []
  refine r_aload_n C d_Mo_shared_0 rfl rfl ?_
  refine g_Mo_7 C d_Mo_shared_1 hR.1 (hR.ar 2 rfl) ?_
  refine r_aload_n C d_Mo_shared_4 rfl rfl ?_
  refine g_Mo_23 C d_Mo_shared_5 hR.1 (hR.ar 6 rfl) ?_
  refine r_iload_n C d_Mo_shared_8 rfl rfl ?_
  refine zr_iaload (t := 1) (k := j) C d_Mo_shared_9 (by decide) rfl (Or.inl (hR.kd 6 rfl)) (by omega) (by show j < 12; omega) (by decide) (hR.el 6 rfl (by show j < 12; omega)) ?_
  rw [ho]
  refine zr_iaload (t := 1) (k := o) C d_Mo_shared_10 (by decide) rfl (Or.inl (hR.kd 2 rfl)) (by omega) (by show o < 4; omega) (by decide) (hR.el 2 rfl (by show o < 4; omega)) ?_
  refine r_istore (ls' := [(4, _), (0, _), (1, _), (2, _)]) C d_Mo_shared_11 (by decide) rfl ?_
  refine r_iload C d_Mo_shared_13 rfl ?_
  refine r_iload C d_Mo_shared_15 rfl ?_
  refine r_iconst C d_Mo_shared_17 rfl ?_
  refine zr_icmp_ge (tgt := 33) C d_Mo_shared_18 (by decide) hty (by unfold zok; omega) (fun c_18 => ?_) (fun c_18 => ?_)
  · refine r_ldc2 (v := 64) C d_Mo_shared_33 (fxTW_in 957 (by decide +kernel) rfl) ?_
    refine r_aload_n C d_Mo_shared_36 rfl rfl ?_
    refine g_Mo_26 C d_Mo_shared_37 hR.1 (hR.ar 7 rfl) ?_
    refine r_iload_n C d_Mo_shared_40 rfl rfl ?_
    refine zr_iaload (t := 1) (k := j) C d_Mo_shared_41 (by decide) rfl (Or.inl (hR.kd 7 rfl)) (by omega) (by show j < 12; omega) (by decide) (hR.el 7 rfl (by show j < 12; omega)) ?_
    refine r_i2l C d_Mo_shared_42 rfl ?_
    refine r_lmul C d_Mo_shared_43 ?_
    refine r_lload_n C d_Mo_shared_44 rfl rfl ?_
    refine c_Mo_145 C d_Mo_shared_45 (m_down 0 w _ _ hv) (by omega) (Nat.le_of_ble_eq_true rfl) (fxPure.k1 ?_) fxPure.k2
    refine c_Mo_122 C d_Mo_shared_48 (m_Mo_kept 0 w _ _ hty hty0) (by omega) (Nat.le_of_ble_eq_true rfl) (fxPure.k1 ?_) fxPure.k2
    exact r_lreturn C d_Mo_shared_51 rfl ⟨by unfold shaF; rw [et, if_neg (by omega)], rfl⟩
  · refine r_aload_n C d_Mo_shared_21 rfl rfl ?_
    refine g_Mo_26 C d_Mo_shared_22 hR.1 (hR.ar 7 rfl) ?_
    refine r_iload_n C d_Mo_shared_25 rfl rfl ?_
    refine zr_iaload (t := 1) (k := j) C d_Mo_shared_26 (by decide) rfl (Or.inl (hR.kd 7 rfl)) (by omega) (by show j < 12; omega) (by decide) (hR.el 7 rfl (by show j < 12; omega)) ?_
    refine r_i2l C d_Mo_shared_27 rfl ?_
    refine r_lload_n C d_Mo_shared_28 rfl rfl ?_
    refine r_ldiv C d_Mo_shared_29 hv ?_
    refine r_goto (tgt := 48) C d_Mo_shared_30 (by decide) ?_
    refine c_Mo_122 C d_Mo_shared_48 (m_Mo_kept 0 w _ _ hty hty0) (by omega) (Nat.le_of_ble_eq_true rfl) (fxPure.k1 ?_) fxPure.k2
    exact r_lreturn C d_Mo_shared_51 rfl ⟨by unfold shaF; rw [et, if_pos (by omega)], rfl⟩
theorem redF_eq (f : Int64 → Int64 → Int64) (g : Nat → Int64) (k n : Nat) (v : Int64) : redF f g k (n + 1) v = redF f g (k + 1) n (f v (g k)) := rfl
/-- what a task's numbers must be: its job j, the job's array o, its range -/
def mTok (S : Ms) (t j o lo hi : Nat) : Prop := t < 600 ∧ S.1 15 t = (j : Int) ∧ j < 12 ∧ S.1 6 j = (o : Int) ∧ o < 4 ∧ S.1 16 t = (lo : Int) ∧ S.1 17 t = (hi : Int) ∧ lo < hi ∧ hi ≤ 24 ∧ 0 ≤ S.1 5 j ∧ S.1 5 j ≤ 5 ∧ 0 ≤ S.1 2 o ∧ S.1 2 o ≤ 5
set_option maxRecDepth 20000 in
theorem m_reduced {G : fxG} (d : Nat) {S : Ms} {m : Nat} {w : fxW} (hR : MoR S m w) {t j o lo hi : Nat} (hd1 : 2 ≤ d) (T : mTok S t j o lo hi) : fxM G d y_Mo_reduced [.ref m, zi (t : Int)] w (fxPure (.long (mReduced S t)) w) := by
  obtain ⟨h6, e15, h12, e6, h4, e16, e17, hlh, h24, hk0, hk5, ht0, ht5⟩ := T
  refine fxM.of cc_Mo_reduced 7 (some .long) [] (by decide +kernel) w_Mo_reduced (Nat.le_of_ble_eq_true rfl) ?_
  intro x C ht hu
  have e : mReduced S t = redF (joinF S j) (fun k => S.2 4 (24 * o + k)) (lo + 1) (hi - (lo + 1)) (S.2 4 (24 * o + lo)) := by
    unfold mReduced mAt mLo mHi mOf; rw [e15, e16, e17]; simp only [Int.toNat_natCast]; rw [e6]; simp only [Int.toNat_natCast]
  rw [e]
  generalize hQ : fxPure (.long (redF (joinF S j) (fun k => S.2 4 (24 * o + k)) (lo + 1) (hi - (lo + 1)) (S.2 4 (24 * o + lo)))) w = QQ
  have loop : ∀ (n k : Nat) (v : Int64), k + n = hi → redF (joinF S j) (fun k => S.2 4 (24 * o + k)) k n v = redF (joinF S j) (fun k => S.2 4 (24 * o + k)) (lo + 1) (hi - (lo + 1)) (S.2 4 (24 * o + lo)) → fxR G 7 x (fxQ G x QQ) w 42 [(6, zi (k : Int)), (4, .long v), (3, zi (24 * (o : Int))), (2, zi (j : Int)), (0, .ref m), (1, zi (t : Int))] [] := by
    intro n
    induction n with
    | zero =>
      intro k v h1 h2
      refine r_iload C d_Mo_reduced_42 rfl ?_
      refine r_aload_n C d_Mo_reduced_44 rfl rfl ?_
      refine g_Mo_53 C d_Mo_reduced_45 hR.1 (hR.ar 17 rfl) ?_
      refine r_iload_n C d_Mo_reduced_48 rfl rfl ?_
      refine zr_iaload (t := 1) (k := t) C d_Mo_reduced_49 (by decide) rfl (Or.inl (hR.kd 17 rfl)) (by omega) (by show t < 600; omega) (by decide) (hR.el 17 rfl (by show t < 600; omega)) ?_
      refine zr_icmp_ge (tgt := 77) C d_Mo_reduced_50 (by decide) (by unfold zok; omega) (by rw [e17]; unfold zok; omega) (fun c_50 => ?_) (fun c_50 => ?_)
      · refine r_lload C d_Mo_reduced_77 rfl ?_
        rw [← hQ]
        exact r_lreturn C d_Mo_reduced_79 rfl ⟨by rw [← h2]; rfl, rfl⟩
      · exact absurd c_50 (by rw [e17]; omega)
    | succ n ih =>
      intro k v h1 h2
      refine r_iload C d_Mo_reduced_42 rfl ?_
      refine r_aload_n C d_Mo_reduced_44 rfl rfl ?_
      refine g_Mo_53 C d_Mo_reduced_45 hR.1 (hR.ar 17 rfl) ?_
      refine r_iload_n C d_Mo_reduced_48 rfl rfl ?_
      refine zr_iaload (t := 1) (k := t) C d_Mo_reduced_49 (by decide) rfl (Or.inl (hR.kd 17 rfl)) (by omega) (by show t < 600; omega) (by decide) (hR.el 17 rfl (by show t < 600; omega)) ?_
      refine zr_icmp_ge (tgt := 77) C d_Mo_reduced_50 (by decide) (by unfold zok; omega) (by rw [e17]; unfold zok; omega) (fun c_50 => ?_) (fun c_50 => ?_)
      · exact absurd c_50 (by rw [e17]; omega)
      · refine r_aload_n C d_Mo_reduced_53 rfl rfl ?_
        refine r_iload_n C d_Mo_reduced_54 rfl rfl ?_
        refine r_lload C d_Mo_reduced_55 rfl ?_
        refine r_aload_n C d_Mo_reduced_57 rfl rfl ?_
        refine g_Mo_16 C d_Mo_reduced_58 hR.1 (hR.arL 4 rfl) ?_
        refine r_iload_n C d_Mo_reduced_61 rfl rfl ?_
        refine r_iload C d_Mo_reduced_62 rfl ?_
        refine zr_iadd C d_Mo_reduced_64 ?_
        refine zr_laload (t := 0) (k := 24 * o + k) C d_Mo_reduced_65 (by decide) rfl (Or.inl (hR.kdL 4 rfl)) (by omega) (by show 24 * o + k < 96; omega) (by decide) (hR.elL 4 rfl (by show 24 * o + k < 96; omega)) ?_
        refine c_Mo_149 C d_Mo_reduced_66 hR.1 (m_joined 1 hR j o _ _ (by omega) h12 (by unfold zok; omega) e6 h4 (by unfold zok; omega) ht0) (by omega) (Nat.le_of_ble_eq_true rfl) (fxPure.k1 ?_) fxPure.k2
        refine r_lstore (ls' := [(4, _), (6, _), (3, _), (2, _), (0, _), (1, _)]) C d_Mo_reduced_69 (by decide) rfl ?_
        refine zr_iinc (ls' := [(6, _), (4, _), (3, _), (2, _), (0, _), (1, _)]) C d_Mo_reduced_71 rfl (by decide) rfl ?_
        refine r_goto (tgt := 42) C d_Mo_reduced_74 (by decide) ?_
        exact ih (k + 1) _ (by omega) (by rw [← h2]; rfl)
  show fxR G 7 x _ w 0 [(0, .ref m), (1, zi (t : Int))] []
  refine r_aload_n C d_Mo_reduced_0 rfl rfl ?_
  refine g_Mo_47 C d_Mo_reduced_1 hR.1 (hR.ar 15 rfl) ?_
  refine r_iload_n C d_Mo_reduced_4 rfl rfl ?_
  refine zr_iaload (t := 1) (k := t) C d_Mo_reduced_5 (by decide) rfl (Or.inl (hR.kd 15 rfl)) (by omega) (by show t < 600; omega) (by decide) (hR.el 15 rfl (by show t < 600; omega)) ?_
  rw [e15]
  refine r_istore_n (ls' := [(2, _), (0, _), (1, _)]) C d_Mo_reduced_6 rfl (by decide) rfl ?_
  refine r_bipush (v := Int32.ofInt 24) C d_Mo_reduced_7 (by decide) ?_
  refine r_aload_n C d_Mo_reduced_9 rfl rfl ?_
  refine g_Mo_23 C d_Mo_reduced_10 hR.1 (hR.ar 6 rfl) ?_
  refine r_iload_n C d_Mo_reduced_13 rfl rfl ?_
  refine zr_iaload (t := 1) (k := j) C d_Mo_reduced_14 (by decide) rfl (Or.inl (hR.kd 6 rfl)) (by omega) (by show j < 12; omega) (by decide) (hR.el 6 rfl (by show j < 12; omega)) ?_
  rw [e6]
  refine zr_imul C d_Mo_reduced_15 ?_
  refine r_istore_n (ls' := [(3, _), (2, _), (0, _), (1, _)]) C d_Mo_reduced_16 rfl (by decide) rfl ?_
  refine r_aload_n C d_Mo_reduced_17 rfl rfl ?_
  refine g_Mo_16 C d_Mo_reduced_18 hR.1 (hR.arL 4 rfl) ?_
  refine r_iload_n C d_Mo_reduced_21 rfl rfl ?_
  refine r_aload_n C d_Mo_reduced_22 rfl rfl ?_
  refine g_Mo_50 C d_Mo_reduced_23 hR.1 (hR.ar 16 rfl) ?_
  refine r_iload_n C d_Mo_reduced_26 rfl rfl ?_
  refine zr_iaload (t := 1) (k := t) C d_Mo_reduced_27 (by decide) rfl (Or.inl (hR.kd 16 rfl)) (by omega) (by show t < 600; omega) (by decide) (hR.el 16 rfl (by show t < 600; omega)) ?_
  rw [e16]
  refine zr_iadd C d_Mo_reduced_28 ?_
  refine zr_laload (t := 0) (k := 24 * o + lo) C d_Mo_reduced_29 (by decide) rfl (Or.inl (hR.kdL 4 rfl)) (by omega) (by show 24 * o + lo < 96; omega) (by decide) (hR.elL 4 rfl (by show 24 * o + lo < 96; omega)) ?_
  refine r_lstore (ls' := [(4, _), (3, _), (2, _), (0, _), (1, _)]) C d_Mo_reduced_30 (by decide) rfl ?_
  refine r_aload_n C d_Mo_reduced_32 rfl rfl ?_
  refine g_Mo_50 C d_Mo_reduced_33 hR.1 (hR.ar 16 rfl) ?_
  refine r_iload_n C d_Mo_reduced_36 rfl rfl ?_
  refine zr_iaload (t := 1) (k := t) C d_Mo_reduced_37 (by decide) rfl (Or.inl (hR.kd 16 rfl)) (by omega) (by show t < 600; omega) (by decide) (hR.el 16 rfl (by show t < 600; omega)) ?_
  rw [e16]
  refine r_iconst C d_Mo_reduced_38 rfl ?_
  refine zr_iadd C d_Mo_reduced_39 ?_
  refine r_istore (ls' := [(6, _), (4, _), (3, _), (2, _), (0, _), (1, _)]) C d_Mo_reduced_40 (by decide) rfl ?_
  exact loop (hi - (lo + 1)) (lo + 1) _ (by omega) rfl
set_option maxRecDepth 20000 in
theorem m_spread {G : fxG} (d : Nat) {S : Ms} {m : Nat} {w : fxW} (hR : MoR S m w) {t j o lo hi : Nat} (hd1 : 2 ≤ d) (T : mTok S t j o lo hi) : fxM G d y_Mo_spread [.ref m, zi (t : Int)] w (moVoid m w (mSpread S t)) := by
  obtain ⟨h6, e15, h12, e6, h4, e16, e17, hlh, h24, hk0, hk5, ht0, ht5⟩ := T
  refine fxM.of cc_Mo_spread 7 none [] (by decide +kernel) w_Mo_spread (Nat.le_of_ble_eq_true rfl) ?_
  intro x C ht hu
  have e : mSpread S t = sprF j (24 * o) lo (hi - lo) (S.2 22 t) S := by
    unfold mSpread mAt mLo mHi mOf; rw [e15, e16, e17]; simp only [Int.toNat_natCast]; rw [e6]; simp only [Int.toNat_natCast]
  rw [e]
  generalize hQ : moVoid m w (sprF j (24 * o) lo (hi - lo) (S.2 22 t) S) = QQ
  have loop : ∀ (n k : Nat) (v : Int64) (S1 : Ms) (w1 : fxW), k + n = hi → S1.1 = S.1 → sprF j (24 * o) k n v S1 = sprF j (24 * o) lo (hi - lo) (S.2 22 t) S → MoR S1 m w1 → MoF m w w1 → fxR G 7 x (fxQ G x QQ) w1 33 [(6, zi (k : Int)), (4, .long v), (3, zi (24 * (o : Int))), (2, zi (j : Int)), (0, .ref m), (1, zi (t : Int))] [] := by
    intro n
    induction n with
    | zero =>
      intro k v S1 w h1 h3 h2 hR hF
      refine r_iload C d_Mo_spread_33 rfl ?_
      refine r_aload_n C d_Mo_spread_35 rfl rfl ?_
      refine g_Mo_53 C d_Mo_spread_36 hR.1 (hR.ar 17 rfl) ?_
      refine r_iload_n C d_Mo_spread_39 rfl rfl ?_
      refine zr_iaload (t := 1) (k := t) C d_Mo_spread_40 (by decide) rfl (Or.inl (hR.kd 17 rfl)) (by omega) (by show t < 600; omega) (by decide) (hR.el 17 rfl (by show t < 600; omega)) ?_
      refine zr_icmp_ge (tgt := 79) C d_Mo_spread_41 (by decide) (by unfold zok; omega) (by rw [h3, e17]; unfold zok; omega) (fun c_41 => ?_) (fun c_41 => ?_)
      · rw [← hQ]
        exact r_return C d_Mo_spread_79 rfl ⟨rfl, by rw [← h2]; exact hR, hF⟩
      · exact absurd c_41 (by rw [h3, e17]; omega)
    | succ n ih =>
      intro k v S1 w h1 h3 h2 hR hF
      refine r_iload C d_Mo_spread_33 rfl ?_
      refine r_aload_n C d_Mo_spread_35 rfl rfl ?_
      refine g_Mo_53 C d_Mo_spread_36 hR.1 (hR.ar 17 rfl) ?_
      refine r_iload_n C d_Mo_spread_39 rfl rfl ?_
      refine zr_iaload (t := 1) (k := t) C d_Mo_spread_40 (by decide) rfl (Or.inl (hR.kd 17 rfl)) (by omega) (by show t < 600; omega) (by decide) (hR.el 17 rfl (by show t < 600; omega)) ?_
      refine zr_icmp_ge (tgt := 79) C d_Mo_spread_41 (by decide) (by unfold zok; omega) (by rw [h3, e17]; unfold zok; omega) (fun c_41 => ?_) (fun c_41 => ?_)
      · exact absurd c_41 (by rw [h3, e17]; omega)
      · refine r_aload_n C d_Mo_spread_44 rfl rfl ?_
        refine r_iload_n C d_Mo_spread_45 rfl rfl ?_
        refine r_lload C d_Mo_spread_46 rfl ?_
        refine r_aload_n C d_Mo_spread_48 rfl rfl ?_
        refine g_Mo_16 C d_Mo_spread_49 hR.1 (hR.arL 4 rfl) ?_
        refine r_iload_n C d_Mo_spread_52 rfl rfl ?_
        refine r_iload C d_Mo_spread_53 rfl ?_
        refine zr_iadd C d_Mo_spread_55 ?_
        refine zr_laload (t := 0) (k := 24 * o + k) C d_Mo_spread_56 (by decide) rfl (Or.inl (hR.kdL 4 rfl)) (by omega) (by show 24 * o + k < 96; omega) (by decide) (hR.elL 4 rfl (by show 24 * o + k < 96; omega)) ?_
        refine c_Mo_149 C d_Mo_spread_57 hR.1 (m_joined 1 hR j o _ _ (by omega) h12 (by rw [h3]; unfold zok; omega) (by rw [h3]; exact e6) h4 (by rw [h3]; unfold zok; omega) (by rw [h3]; exact ht0)) (by omega) (Nat.le_of_ble_eq_true rfl) (fxPure.k1 ?_) fxPure.k2
        refine r_lstore (ls' := [(4, _), (6, _), (3, _), (2, _), (0, _), (1, _)]) C d_Mo_spread_60 (by decide) rfl ?_
        refine r_aload_n C d_Mo_spread_62 rfl rfl ?_
        refine g_Mo_16 C d_Mo_spread_63 hR.1 (hR.arL 4 rfl) ?_
        refine r_iload_n C d_Mo_spread_66 rfl rfl ?_
        refine r_iload C d_Mo_spread_67 rfl ?_
        refine zr_iadd C d_Mo_spread_69 ?_
        refine r_lload C d_Mo_spread_70 rfl ?_
        refine zr_lastore (t := 0) (k := 24 * o + k) C d_Mo_spread_72 (by decide) rfl (hR.kdL 4 rfl) (by omega) (by show 24 * o + k < 96; omega) (by decide) ?_
        refine mo_abL 4 hR rfl (fun w hR hF9 => ?_)
        have hF := hF.tr hF9
        refine zr_iinc (ls' := [(6, _), (4, _), (3, _), (2, _), (0, _), (1, _)]) C d_Mo_spread_73 rfl (by decide) rfl ?_
        refine r_goto (tgt := 33) C d_Mo_spread_76 (by decide) ?_
        exact ih (k + 1) _ (sq S1 4 (24 * o + k) (joinF S1 j v (S1.2 4 (24 * o + k)))) w (by omega) h3 (by rw [← h2]; rfl) hR hF
  have hF : MoF m w w := MoF.rf
  show fxR G 7 x _ w 0 [(0, .ref m), (1, zi (t : Int))] []
  refine r_aload_n C d_Mo_spread_0 rfl rfl ?_
  refine g_Mo_47 C d_Mo_spread_1 hR.1 (hR.ar 15 rfl) ?_
  refine r_iload_n C d_Mo_spread_4 rfl rfl ?_
  refine zr_iaload (t := 1) (k := t) C d_Mo_spread_5 (by decide) rfl (Or.inl (hR.kd 15 rfl)) (by omega) (by show t < 600; omega) (by decide) (hR.el 15 rfl (by show t < 600; omega)) ?_
  rw [e15]
  refine r_istore_n (ls' := [(2, _), (0, _), (1, _)]) C d_Mo_spread_6 rfl (by decide) rfl ?_
  refine r_bipush (v := Int32.ofInt 24) C d_Mo_spread_7 (by decide) ?_
  refine r_aload_n C d_Mo_spread_9 rfl rfl ?_
  refine g_Mo_23 C d_Mo_spread_10 hR.1 (hR.ar 6 rfl) ?_
  refine r_iload_n C d_Mo_spread_13 rfl rfl ?_
  refine zr_iaload (t := 1) (k := j) C d_Mo_spread_14 (by decide) rfl (Or.inl (hR.kd 6 rfl)) (by omega) (by show j < 12; omega) (by decide) (hR.el 6 rfl (by show j < 12; omega)) ?_
  rw [e6]
  refine zr_imul C d_Mo_spread_15 ?_
  refine r_istore_n (ls' := [(3, _), (2, _), (0, _), (1, _)]) C d_Mo_spread_16 rfl (by decide) rfl ?_
  refine r_aload_n C d_Mo_spread_17 rfl rfl ?_
  refine g_Mo_68 C d_Mo_spread_18 hR.1 (hR.arL 22 rfl) ?_
  refine r_iload_n C d_Mo_spread_21 rfl rfl ?_
  refine zr_laload (t := 0) (k := t) C d_Mo_spread_22 (by decide) rfl (Or.inl (hR.kdL 22 rfl)) (by omega) (by show t < 600; omega) (by decide) (hR.elL 22 rfl (by show t < 600; omega)) ?_
  refine r_lstore (ls' := [(4, _), (3, _), (2, _), (0, _), (1, _)]) C d_Mo_spread_23 (by decide) rfl ?_
  refine r_aload_n C d_Mo_spread_25 rfl rfl ?_
  refine g_Mo_50 C d_Mo_spread_26 hR.1 (hR.ar 16 rfl) ?_
  refine r_iload_n C d_Mo_spread_29 rfl rfl ?_
  refine zr_iaload (t := 1) (k := t) C d_Mo_spread_30 (by decide) rfl (Or.inl (hR.kd 16 rfl)) (by omega) (by show t < 600; omega) (by decide) (hR.el 16 rfl (by show t < 600; omega)) ?_
  rw [e16]
  refine r_istore (ls' := [(6, _), (4, _), (3, _), (2, _), (0, _), (1, _)]) C d_Mo_spread_31 (by decide) rfl ?_
  exact loop (hi - lo) lo _ S w (by omega) rfl rfl hR hF
set_option maxRecDepth 20000 in
theorem m_order {G : fxG} (d : Nat) {S : Ms} {m : Nat} {w : fxW} (hR : MoR S m w) {a lo hi : Nat} (ha : a ≤ 72) (hlh : lo < hi) (h24 : hi ≤ 24) : fxM G d y_Mo_order [.ref m, zi (a : Int), zi (lo : Int), zi (hi : Int)] w (moVoid m w (mOrder S a lo hi)) := by
  refine fxM.of cc_Mo_order 8 none [] (by decide +kernel) w_Mo_order (Nat.le_of_ble_eq_true rfl) ?_
  intro x C ht hu
  unfold mOrder
  generalize hQ : moVoid m w (ordF (a + lo) (a + lo + 1) (hi - (lo + 1)) S) = QQ
  have inner : ∀ (S0 : Ms) (i : Nat), i < a + hi → a + lo < i → (∀ w1, MoR (insF (a + lo) i S0) m w1 → MoF m w w1 → fxR G 8 x (fxQ G x QQ) w1 89 [(4, zi (i : Int)), (0, .ref m), (1, zi (a : Int)), (2, zi (lo : Int)), (3, zi (hi : Int))] []) → ∀ (k : Nat) (S1 : Ms) (w1 : fxW), k ≤ i → a + lo ≤ k → insF (a + lo) k S1 = insF (a + lo) i S0 → MoR S1 m w1 → MoF m w w1 → fxR G 8 x (fxQ G x QQ) w1 19 [(5, zi (k : Int)), (4, zi (i : Int)), (0, .ref m), (1, zi (a : Int)), (2, zi (lo : Int)), (3, zi (hi : Int))] [] := by
    intro S0 i hi1 hi2 next k
    induction k with
    | zero =>
      intro S1 w h1 h2 h3 hR hF
      refine r_iload C d_Mo_order_19 rfl ?_
      refine r_iload_n C d_Mo_order_21 rfl rfl ?_
      refine r_iload_n C d_Mo_order_22 rfl rfl ?_
      refine zr_iadd C d_Mo_order_23 ?_
      refine zr_icmp_le (tgt := 89) C d_Mo_order_24 (by decide) (by unfold zok; omega) (by unfold zok; omega) (fun c_24 => ?_) (fun c_24 => ?_)
      · refine fx_sub (ls' := [(4, zi (i : Int)), (0, .ref m), (1, zi (a : Int)), (2, zi (lo : Int)), (3, zi (hi : Int))]) (by simp [fxL]) ?_
        exact next w (by rw [← h3]; exact hR) hF
      · exact absurd c_24 (by omega)
    | succ k ih =>
      intro S1 w h1 h2 h3 hR hF
      refine r_iload C d_Mo_order_19 rfl ?_
      refine r_iload_n C d_Mo_order_21 rfl rfl ?_
      refine r_iload_n C d_Mo_order_22 rfl rfl ?_
      refine zr_iadd C d_Mo_order_23 ?_
      refine zr_icmp_le (tgt := 89) C d_Mo_order_24 (by decide) (by unfold zok; omega) (by unfold zok; omega) (fun c_24 => ?_) (fun c_24 => ?_)
      · refine fx_sub (ls' := [(4, zi (i : Int)), (0, .ref m), (1, zi (a : Int)), (2, zi (lo : Int)), (3, zi (hi : Int))]) (by simp [fxL]) ?_
        have e : insF (a + lo) (k + 1) S1 = S1 := by unfold insF; rw [if_neg (by omega)]
        exact next w (by rw [← h3, e]; exact hR) hF
      · refine r_aload_n C d_Mo_order_27 rfl rfl ?_
        refine g_Mo_16 C d_Mo_order_28 hR.1 (hR.arL 4 rfl) ?_
        refine r_iload C d_Mo_order_31 rfl ?_
        refine r_iconst C d_Mo_order_33 rfl ?_
        refine zr_isub C d_Mo_order_34 ?_
        refine zr_laload (t := 0) (k := k) C d_Mo_order_35 (by decide) rfl (Or.inl (hR.kdL 4 rfl)) (by omega) (by show k < 96; omega) (by decide) (hR.elL 4 rfl (by show k < 96; omega)) ?_
        refine r_aload_n C d_Mo_order_36 rfl rfl ?_
        refine g_Mo_16 C d_Mo_order_37 hR.1 (hR.arL 4 rfl) ?_
        refine r_iload C d_Mo_order_40 rfl ?_
        refine zr_laload (t := 0) (k := k + 1) C d_Mo_order_42 (by decide) rfl (Or.inl (hR.kdL 4 rfl)) (by omega) (by show k + 1 < 96; omega) (by decide) (hR.elL 4 rfl (by show k + 1 < 96; omega)) ?_
        refine zr_lif_le (tgt := 89) C d_Mo_order_43 d_Mo_order_44 (by decide) (fun c_43 => ?_) (fun c_43 => ?_)
        · refine fx_sub (ls' := [(4, zi (i : Int)), (0, .ref m), (1, zi (a : Int)), (2, zi (lo : Int)), (3, zi (hi : Int))]) (by simp [fxL]) ?_
          have e : insF (a + lo) (k + 1) S1 = S1 := by
            unfold insF; rw [if_neg (fun q => absurd q.2 (Int64.not_lt.mpr c_43))]
          exact next w (by rw [← h3, e]; exact hR) hF
        · have e : insF (a + lo) (k + 1) S1 = insF (a + lo) k (mSwap S1 k) := by
            rw [insF, if_pos ⟨by omega, Int64.not_le.mp c_43⟩]
          refine r_aload_n C d_Mo_order_47 rfl rfl ?_
          refine g_Mo_16 C d_Mo_order_48 hR.1 (hR.arL 4 rfl) ?_
          refine r_iload C d_Mo_order_51 rfl ?_
          refine zr_laload (t := 0) (k := k + 1) C d_Mo_order_53 (by decide) rfl (Or.inl (hR.kdL 4 rfl)) (by omega) (by show k + 1 < 96; omega) (by decide) (hR.elL 4 rfl (by show k + 1 < 96; omega)) ?_
          refine r_lstore (ls' := [(6, _), (5, _), (4, _), (0, _), (1, _), (2, _), (3, _)]) C d_Mo_order_54 (by decide) rfl ?_
          refine r_aload_n C d_Mo_order_56 rfl rfl ?_
          refine g_Mo_16 C d_Mo_order_57 hR.1 (hR.arL 4 rfl) ?_
          refine r_iload C d_Mo_order_60 rfl ?_
          refine r_aload_n C d_Mo_order_62 rfl rfl ?_
          refine g_Mo_16 C d_Mo_order_63 hR.1 (hR.arL 4 rfl) ?_
          refine r_iload C d_Mo_order_66 rfl ?_
          refine r_iconst C d_Mo_order_68 rfl ?_
          refine zr_isub C d_Mo_order_69 ?_
          refine zr_laload (t := 0) (k := k) C d_Mo_order_70 (by decide) rfl (Or.inl (hR.kdL 4 rfl)) (by omega) (by show k < 96; omega) (by decide) (hR.elL 4 rfl (by show k < 96; omega)) ?_
          refine zr_lastore (t := 0) (k := k + 1) C d_Mo_order_71 (by decide) rfl (hR.kdL 4 rfl) (by omega) (by show k + 1 < 96; omega) (by decide) ?_
          refine mo_abL 4 hR rfl (fun w hR hF9 => ?_)
          have hF := hF.tr hF9
          refine r_aload_n C d_Mo_order_72 rfl rfl ?_
          refine g_Mo_16 C d_Mo_order_73 hR.1 (hR.arL 4 rfl) ?_
          refine r_iload C d_Mo_order_76 rfl ?_
          refine r_iconst C d_Mo_order_78 rfl ?_
          refine zr_isub C d_Mo_order_79 ?_
          refine r_lload C d_Mo_order_80 rfl ?_
          refine zr_lastore (t := 0) (k := k) C d_Mo_order_82 (by decide) rfl (hR.kdL 4 rfl) (by omega) (by show k < 96; omega) (by decide) ?_
          refine mo_abL 4 hR rfl (fun w hR hF9 => ?_)
          have hF := hF.tr hF9
          refine zr_iinc (ls' := [(5, _), (6, _), (4, _), (0, _), (1, _), (2, _), (3, _)]) C d_Mo_order_83 rfl (by decide) rfl ?_
          refine r_goto (tgt := 19) C d_Mo_order_86 (by decide) ?_
          rw [show ((k + 1 : Nat) : Int) + -1 = (k : Int) by omega]
          refine fx_sub (ls' := [(5, zi (k : Int)), (4, zi (i : Int)), (0, .ref m), (1, zi (a : Int)), (2, zi (lo : Int)), (3, zi (hi : Int))]) (by simp [fxL]) ?_
          exact ih _ w (by omega) (by omega) (by rw [← h3, e]; rfl) hR hF
  have outer : ∀ (n i : Nat) (S1 : Ms) (w1 : fxW), i + n = a + hi → a + lo < i → ordF (a + lo) i n S1 = ordF (a + lo) (a + lo + 1) (hi - (lo + 1)) S → MoR S1 m w1 → MoF m w w1 → fxR G 8 x (fxQ G x QQ) w1 7 [(4, zi (i : Int)), (0, .ref m), (1, zi (a : Int)), (2, zi (lo : Int)), (3, zi (hi : Int))] [] := by
    intro n
    induction n with
    | zero =>
      intro i S1 w h1 h2 h3 hR hF
      refine r_iload C d_Mo_order_7 rfl ?_
      refine r_iload_n C d_Mo_order_9 rfl rfl ?_
      refine r_iload_n C d_Mo_order_10 rfl rfl ?_
      refine zr_iadd C d_Mo_order_11 ?_
      refine zr_icmp_ge (tgt := 95) C d_Mo_order_12 (by decide) (by unfold zok; omega) (by unfold zok; omega) (fun c_12 => ?_) (fun c_12 => ?_)
      · rw [← hQ]
        exact r_return C d_Mo_order_95 rfl ⟨rfl, by rw [← h3]; exact hR, hF⟩
      · exact absurd c_12 (by omega)
    | succ n ih =>
      intro i S1 w h1 h2 h3 hR hF
      refine r_iload C d_Mo_order_7 rfl ?_
      refine r_iload_n C d_Mo_order_9 rfl rfl ?_
      refine r_iload_n C d_Mo_order_10 rfl rfl ?_
      refine zr_iadd C d_Mo_order_11 ?_
      refine zr_icmp_ge (tgt := 95) C d_Mo_order_12 (by decide) (by unfold zok; omega) (by unfold zok; omega) (fun c_12 => ?_) (fun c_12 => ?_)
      · exact absurd c_12 (by omega)
      · refine r_iload C d_Mo_order_15 rfl ?_
        refine r_istore (ls' := [(5, _), (4, _), (0, _), (1, _), (2, _), (3, _)]) C d_Mo_order_17 (by decide) rfl ?_
        refine inner S1 i (by omega) h2 (fun w hR hF => ?_) i S1 w (Nat.le_refl i) (by omega) rfl hR hF
        refine zr_iinc (ls' := [(4, _), (0, _), (1, _), (2, _), (3, _)]) C d_Mo_order_89 rfl (by decide) rfl ?_
        refine r_goto (tgt := 7) C d_Mo_order_92 (by decide) ?_
        exact ih (i + 1) _ w (by omega) (by omega) (by rw [← h3]; rfl) hR hF
  have hF : MoF m w w := MoF.rf
  show fxR G 8 x _ w 0 [(0, .ref m), (1, zi (a : Int)), (2, zi (lo : Int)), (3, zi (hi : Int))] []
  refine r_iload_n C d_Mo_order_0 rfl rfl ?_
  refine r_iload_n C d_Mo_order_1 rfl rfl ?_
  refine zr_iadd C d_Mo_order_2 ?_
  refine r_iconst C d_Mo_order_3 rfl ?_
  refine zr_iadd C d_Mo_order_4 ?_
  refine r_istore (ls' := [(4, _), (0, _), (1, _), (2, _), (3, _)]) C d_Mo_order_5 (by decide) rfl ?_
  exact outer (hi - (lo + 1)) (a + lo + 1) S w (by omega) (by omega) rfl hR hF
end
section
section FXP
variable {G : fxG} {d nL : Nat} {cc : ByteArray} {own nm : String} {ret : Option FieldType} {hh : List (Nat × Nat × Nat × Nat)} {x : fxX} {Q : State → Prop} {w : fxW} {pc : Nat} {ls : List (Nat × Value)} {st : List Value}
theorem r_pop (C : fxC G d cc nL own nm ret hh x) {a : Value} (hd : decode cc pc = .ok (.pop, 1)) (ha : a.category = 1) (k : fxR G nL x Q w (pc + 1) ls st) : fxR G nL x Q w pc ls (a :: st) := by
  obtain ⟨p, e, R, s, m, args, below, meth, c, t0, u0⟩ := x
  obtain ⟨hx, hb', C2⟩ := C
  exact fx_lift (fun H locs sl cells slots h3 kk => lv_pop hx hb' hd ha kk) k
end FXP
/-! WHAT KEEPS THE REFERENCE WITHIN ITS ARRAYS -/
def BiA (S : Ms) (a : Nat) : Prop := -1 ≤ S.1 2 a ∧ S.1 2 a ≤ 5 ∧ 0 ≤ S.1 3 a ∧ S.1 3 a ≤ 24 ∧ (0 ≤ S.1 2 a → 1 ≤ S.1 3 a)
def BiJ (S : Ms) (j : Nat) : Prop := 0 ≤ S.1 5 j ∧ S.1 5 j ≤ 5 ∧ 0 ≤ S.1 6 j ∧ S.1 6 j ≤ 3 ∧ 0 ≤ S.1 2 (S.1 6 j).toNat ∧ 0 ≤ S.1 9 j ∧ S.1 9 j ≤ 2 ∧ 1 ≤ S.1 13 j ∧ S.1 13 j ≤ 2 ∧ 0 ≤ S.1 12 j ∧ S.1 12 j < S.1 23 0 ∧ -1000 ≤ S.1 7 j ∧ S.1 7 j ≤ 1000 ∧ -1000 ≤ S.1 8 j ∧ S.1 8 j ≤ 1000
def BiT (S : Ms) (t : Nat) : Prop := 0 ≤ S.1 15 t ∧ S.1 15 t < S.1 14 0 ∧ 0 ≤ S.1 16 t ∧ S.1 16 t < S.1 17 t ∧ S.1 17 t ≤ 24 ∧ -1 ≤ S.1 18 t ∧ S.1 18 t < t ∧ (S.1 19 t = -1 ∨ ((t : Int) < S.1 19 t ∧ S.1 19 t + 1 < S.1 23 0)) ∧ 0 ≤ S.1 20 t ∧ S.1 20 t ≤ 2
def BiQ (S : Ms) (i : Nat) : Prop := 0 ≤ S.1 25 i ∧ S.1 25 i ≤ 600 ∧ ∀ k : Nat, (k : Int) < S.1 25 i → 0 ≤ S.1 24 (600 * i + k) ∧ S.1 24 (600 * i + k) < S.1 23 0
def Bi (S : Ms) : Prop :=
  (1 ≤ S.1 1 0 ∧ S.1 1 0 ≤ 4) ∧ (∀ a, a < 4 → BiA S a) ∧ (0 ≤ S.1 14 0 ∧ S.1 14 0 ≤ 12) ∧ (∀ j : Nat, (j : Int) < S.1 14 0 → BiJ S j) ∧ (0 ≤ S.1 23 0 ∧ S.1 23 0 ≤ 600) ∧ (∀ t : Nat, (t : Int) < S.1 23 0 → BiT S t) ∧ (∀ i, i < 4 → BiQ S i) ∧ (∀ i : Nat, (i : Int) < S.1 1 0 → 0 ≤ S.1 29 i ∧ S.1 29 i < S.1 1 0) ∧ (1 ≤ S.1 30 0 ∧ S.1 30 0 ≤ 24) ∧ (0 ≤ S.1 32 0 ∧ S.1 32 0 < S.1 1 0)
theorem mPull_k {S : Ms} {i k : Nat} (c j : Nat) (h4 : c ≠ 24) (h5 : c ≠ 25) : (mPull S i k).1 c j = S.1 c j := by
  unfold mPull; rw [mShift_k _ _ _ _ h4, sp_k _ _ _ _ h5]
theorem mPull_25 {S : Ms} {i k : Nat} (j : Nat) : (mPull S i k).1 25 j = if j = i then S.1 25 i - 1 else S.1 25 j := by
  unfold mPull; rw [mShift_k _ _ _ _ (by decide)]
  by_cases h : j = i
  · subst h; rw [sp_same, if_pos rfl]
  · rw [sp_j _ _ _ h, if_neg h]
theorem mPull_24 {S : Ms} {i k q : Nat} (hq : S.1 25 i = (q : Int)) (j : Nat) : (mPull S i k).1 24 j = if 600 * i + k ≤ j ∧ j < 600 * i + (q - 1) then S.1 24 (j + 1) else S.1 24 j := by
  unfold mPull; rw [mShift_24, hq]; rfl
theorem mPull_2 (S : Ms) (i k : Nat) : (mPull S i k).2 = S.2 := rfl
/-- a change that leaves the arrays', jobs' and tasks' numbers alone -/
theorem Bi.mono {S S' : Ms} (h : Bi S) (hc : ∀ c j, c ≠ 24 → c ≠ 25 → c ≠ 10 → c ≠ 11 → c ≠ 26 → c ≠ 27 → c ≠ 28 → c ≠ 31 → c ≠ 0 → S'.1 c j = S.1 c j) (hq : ∀ i, i < 4 → BiQ S' i) : Bi S' := by
  obtain ⟨h1, h2, h3, h4, h5, h6, h7, h8, h9, h10⟩ := h
  have c' : ∀ c j, c = 1 ∨ c = 2 ∨ c = 3 ∨ c = 5 ∨ c = 6 ∨ c = 7 ∨ c = 8 ∨ c = 9 ∨ c = 12 ∨ c = 13 ∨ c = 14 ∨ c = 15 ∨ c = 16 ∨ c = 17 ∨ c = 18 ∨ c = 19 ∨ c = 20 ∨ c = 23 ∨ c = 29 ∨ c = 30 ∨ c = 32 → S'.1 c j = S.1 c j := fun c j h => hc c j (by omega) (by omega) (by omega) (by omega) (by omega) (by omega) (by omega) (by omega) (by omega)
  refine ⟨?_, ?_, ?_, ?_, ?_, ?_, hq, ?_, ?_, ?_⟩
  · rw [c' 1 0 (by simp)]; exact h1
  · intro a ha; unfold BiA; rw [c' 2 a (by simp), c' 3 a (by simp)]; exact h2 a ha
  · rw [c' 14 0 (by simp)]; exact h3
  · intro j hj; rw [c' 14 0 (by simp)] at hj; unfold BiJ; rw [c' 5 j (by simp), c' 6 j (by simp), c' 2 _ (by simp), c' 9 j (by simp), c' 13 j (by simp), c' 12 j (by simp), c' 23 0 (by simp), c' 7 j (by simp), c' 8 j (by simp)]; exact h4 j hj
  · rw [c' 23 0 (by simp)]; exact h5
  · intro t ht; rw [c' 23 0 (by simp)] at ht; unfold BiT; rw [c' 15 t (by simp), c' 14 0 (by simp), c' 16 t (by simp), c' 17 t (by simp), c' 18 t (by simp), c' 19 t (by simp), c' 20 t (by simp), c' 23 0 (by simp)]; exact h6 t ht
  · intro i hi; rw [c' 1 0 (by simp)] at hi ⊢; rw [c' 29 i (by simp)]; exact h8 i hi
  · rw [c' 30 0 (by simp)]; exact h9
  · rw [c' 32 0 (by simp), c' 1 0 (by simp)]; exact h10
theorem Bi_pull {S : Ms} {i k q : Nat} (h : Bi S) (hi : i < 4) (hq : S.1 25 i = (q : Int)) (hk : k < q) : Bi (mPull S i k) := by
  refine h.mono (fun c j h4 h5 _ _ _ _ _ _ _ => mPull_k c j h4 h5) (fun i' hi' => ?_)
  obtain ⟨-, -, -, -, -, -, h7, -⟩ := h
  obtain ⟨a1, a2, a3⟩ := h7 i' hi'
  have hq6 := (h7 i hi).2.1
  unfold BiQ
  rw [mPull_25]
  by_cases e : i' = i
  · subst e
    rw [if_pos rfl]
    refine ⟨by omega, by omega, fun k' hk' => ?_⟩
    rw [mPull_24 hq, mPull_k 23 0 (by decide) (by decide)]
    by_cases c1 : 600 * i' + k ≤ 600 * i' + k' ∧ 600 * i' + k' < 600 * i' + (q - 1)
    · rw [if_pos c1, show 600 * i' + k' + 1 = 600 * i' + (k' + 1) by omega]; exact a3 (k' + 1) (by omega)
    · rw [if_neg c1]; exact a3 k' (by omega)
  · rw [if_neg e]
    refine ⟨a1, a2, fun k' hk' => ?_⟩
    rw [mPull_24 hq, mPull_k 23 0 (by decide) (by decide), if_neg (by omega)]
    exact a3 k' hk'
theorem endW_succ (i : Nat) (j : Int) (n k : Nat) (S : Ms) : endW i j (n + 1) k S = if S.1 15 (S.1 24 (600 * i + k)).toNat = j then endW i j n k (mPull S i k) else endW i j n (k + 1) S := rfl
theorem endW_Bi {i : Nat} (j : Int) (hi : i < 4) : ∀ (n k : Nat) (S : Ms), Bi S → S.1 25 i = ((k + n : Nat) : Int) → Bi (endW i j n k S) ∧ ∀ c jj, c ≠ 24 → c ≠ 25 → (endW i j n k S).1 c jj = S.1 c jj := by
  intro n
  induction n with
  | zero => intro k S h _; exact ⟨h, fun _ _ _ _ => rfl⟩
  | succ n ih =>
    intro k S h h1
    rw [endW_succ]
    split
    · obtain ⟨q1, q2⟩ := ih k (mPull S i k) (Bi_pull h hi h1 (by omega)) (by rw [mPull_25, if_pos rfl]; omega)
      exact ⟨q1, fun c jj h4 h5 => (q2 c jj h4 h5).trans (mPull_k c jj h4 h5)⟩
    · exact ih (k + 1) S h (by omega)
theorem endA_succ (j : Int) (n i : Nat) (S : Ms) : endA j (n + 1) i S = endA j n (i + 1) (endW i j (S.1 25 i).toNat 0 S) := rfl
theorem endA_Bi (j : Int) : ∀ (n i : Nat) (S : Ms), i + n ≤ 4 → Bi S → Bi (endA j n i S) ∧ ∀ c jj, c ≠ 24 → c ≠ 25 → (endA j n i S).1 c jj = S.1 c jj := by
  intro n
  induction n with
  | zero => intro i S _ h; exact ⟨h, fun _ _ _ _ => rfl⟩
  | succ n ih =>
    intro i S hi h
    rw [endA_succ]
    have b := (h.2.2.2.2.2.2.1 i (by omega)).1
    obtain ⟨q1, q2⟩ := endW_Bi j (i := i) (by omega) (S.1 25 i).toNat 0 S h (by omega)
    obtain ⟨q3, q4⟩ := ih (i + 1) _ (by omega) q1
    exact ⟨q3, fun c jj h4 h5 => (q4 c jj h4 h5).trans (q2 c jj h4 h5)⟩
theorem Bi_st {S : Ms} (h : Bi S) (j : Nat) (s x : Int) (hs : 0 ≤ s ∧ s ≤ 2) : Bi (sp (sp S 9 j s) 10 j x) := by
  obtain ⟨h1, h2, h3, h4, h5, h6, h7, h8, h9, h10⟩ := h
  refine ⟨h1, h2, h3, fun j' hj' => ?_, h5, h6, h7, h8, h9, h10⟩
  obtain ⟨a1, a2, a3, a4, a5, a6, a7, a8⟩ := h4 j' hj'
  refine ⟨a1, a2, a3, a4, a5, ?_, ?_, a8⟩
  all_goals
    rw [sp_k _ _ _ _ (by decide)]
    by_cases e : j' = j
    · subst e; rw [sp_same]; first | exact hs.1 | exact hs.2
    · rw [sp_j _ _ _ e]; assumption
set_option maxRecDepth 20000 in
theorem m_end {G : fxG} (d : Nat) {S : Ms} {m : Nat} {w : fxW} (hR : MoR S m w) (hd1 : 1 ≤ d) (j : Nat) (v : Int) (hj : j < 12) (hB : Bi S) : fxM G d y_Mo_end [.ref m, zi (j : Int), zi v] w (moVoid m w (mEnd S j v)) := by
  refine fxM.of cc_Mo_end 5 none [] (by decide +kernel) w_Mo_end (Nat.le_of_ble_eq_true rfl) ?_
  intro x C ht hu
  have hq9 : ∀ i, i < 4 → BiQ (sp (sp S 9 j 2) 10 j v) i := hB.2.2.2.2.2.2.1
  obtain ⟨W, hW⟩ := Int.eq_ofNat_of_zero_le (show 0 ≤ S.1 1 0 by have := hB.1.1; omega)
  have hW4 : W ≤ 4 := by have := hB.1.2; omega
  have eW : mEnd S j v = endA j W 0 (sp (sp S 9 j 2) 10 j v) := by unfold mEnd; rw [hW]; rfl
  rw [eW]
  generalize hQ : moVoid m w (endA j W 0 (sp (sp S 9 j 2) 10 j v)) = QQ
  -- what the loops keep
  have inner : ∀ (i : Nat), i < 4 → ∀ (T0 : Ms), (∀ w1, MoR T0 m w1 → MoF m w w1 → fxR G 5 x (fxQ G x QQ) w1 77 [(3, zi (i : Int)), (0, .ref m), (1, zi (j : Int)), (2, zi v)] []) → ∀ (n k : Nat) (S1 : Ms) (w1 : fxW), Bi S1 → S1.1 25 i = ((k + n : Nat) : Int) → endW i j n k S1 = T0 → MoR S1 m w1 → MoF m w w1 → fxR G 5 x (fxQ G x QQ) w1 27 [(4, zi (k : Int)), (3, zi (i : Int)), (0, .ref m), (1, zi (j : Int)), (2, zi v)] [] := by
    intro i hi4 T0 next n
    induction n with
    | zero =>
      intro k S1 w hB1 h1 h2 hR hF
      have b := hB1.2.2.2.2.2.2.1 i hi4
      have b1 := b.2.1
      refine r_iload C d_Mo_end_27 rfl ?_
      refine r_aload_n C d_Mo_end_29 rfl rfl ?_
      refine g_Mo_74 C d_Mo_end_30 hR.1 (hR.ar 25 rfl) ?_
      refine r_iload_n C d_Mo_end_33 rfl rfl ?_
      refine zr_iaload (t := 1) (k := i) C d_Mo_end_34 (by decide) rfl (Or.inl (hR.kd 25 rfl)) (by omega) (by show i < 4; omega) (by decide) (hR.el 25 rfl (by show i < 4; omega)) ?_
      refine zr_icmp_ge (tgt := 77) C d_Mo_end_35 (by decide) (by unfold zok; omega) (by unfold zok; omega) (fun c_35 => ?_) (fun c_35 => ?_)
      · refine fx_sub (ls' := [(3, zi (i : Int)), (0, .ref m), (1, zi (j : Int)), (2, zi v)]) (by simp [fxL]) ?_
        exact next w (by rw [← h2]; exact hR) hF
      · exact absurd c_35 (by omega)
    | succ n ih =>
      intro k S1 w hB1 h1 h2 hR hF
      have b := hB1.2.2.2.2.2.2.1 i hi4
      have b1 := b.2.1
      obtain ⟨b2, b3⟩ := b.2.2 k (by omega)
      obtain ⟨t, ht1⟩ := Int.eq_ofNat_of_zero_le b2
      have hT6 := hB1.2.2.2.2.1.2
      have tt := hB1.2.2.2.2.2.1 t (by omega)
      have hJ := hB1.2.2.1.2
      refine r_iload C d_Mo_end_27 rfl ?_
      refine r_aload_n C d_Mo_end_29 rfl rfl ?_
      refine g_Mo_74 C d_Mo_end_30 hR.1 (hR.ar 25 rfl) ?_
      refine r_iload_n C d_Mo_end_33 rfl rfl ?_
      refine zr_iaload (t := 1) (k := i) C d_Mo_end_34 (by decide) rfl (Or.inl (hR.kd 25 rfl)) (by omega) (by show i < 4; omega) (by decide) (hR.el 25 rfl (by show i < 4; omega)) ?_
      refine zr_icmp_ge (tgt := 77) C d_Mo_end_35 (by decide) (by unfold zok; omega) (by unfold zok; omega) (fun c_35 => ?_) (fun c_35 => ?_)
      · exact absurd c_35 (by omega)
      · refine r_aload_n C d_Mo_end_38 rfl rfl ?_
        refine g_Mo_47 C d_Mo_end_39 hR.1 (hR.ar 15 rfl) ?_
        refine r_aload_n C d_Mo_end_42 rfl rfl ?_
        refine g_Mo_71 C d_Mo_end_43 hR.1 (hR.ar 24 rfl) ?_
        refine r_sipush (v := Int32.ofInt 600) C d_Mo_end_46 (by decide) ?_
        refine r_iload_n C d_Mo_end_49 rfl rfl ?_
        refine zr_imul C d_Mo_end_50 ?_
        refine r_iload C d_Mo_end_51 rfl ?_
        refine zr_iadd C d_Mo_end_53 ?_
        refine zr_iaload (t := 1) (k := 600 * i + k) C d_Mo_end_54 (by decide) rfl (Or.inl (hR.kd 24 rfl)) (by omega) (by show 600 * i + k < 2400; omega) (by decide) (hR.el 24 rfl (by show 600 * i + k < 2400; omega)) ?_
        rw [ht1]
        refine zr_iaload (t := 1) (k := t) C d_Mo_end_55 (by decide) rfl (Or.inl (hR.kd 15 rfl)) (by omega) (by show t < 600; omega) (by decide) (hR.el 15 rfl (by show t < 600; omega)) ?_
        refine r_iload_n C d_Mo_end_56 rfl rfl ?_
        refine zr_icmp_ne (tgt := 71) C d_Mo_end_57 (by decide) (by have := tt.1; have := tt.2.1; unfold zok; omega) (by unfold zok; omega) (fun c_57 => ?_) (fun c_57 => ?_)
        · refine zr_iinc (ls' := [(4, _), (3, _), (0, _), (1, _), (2, _)]) C d_Mo_end_71 rfl (by decide) rfl ?_
          refine r_goto (tgt := 27) C d_Mo_end_74 (by decide) ?_
          refine ih (k + 1) S1 w hB1 (by omega) ?_ hR hF
          rw [← h2, endW_succ, if_neg (by rw [ht1]; exact c_57)]
        · refine r_aload_n C d_Mo_end_60 rfl rfl ?_
          refine r_iload_n C d_Mo_end_61 rfl rfl ?_
          refine r_iload C d_Mo_end_62 rfl ?_
          refine c_Mo_126 C d_Mo_end_64 hR.1 (m_pull 0 hR i k (k + (n + 1)) hi4 h1 (by omega) (by omega)) (by omega) (Nat.le_of_ble_eq_true rfl) (moRet.k1 (fun w hR hF9 => ?_)) moRet.k2
          have hF := hF.tr hF9
          refine r_pop C d_Mo_end_67 rfl ?_
          refine r_goto (tgt := 27) C d_Mo_end_68 (by decide) ?_
          refine ih k (mPull S1 i k) w (Bi_pull hB1 hi4 h1 (by omega)) (by rw [mPull_25, if_pos rfl]; omega) ?_ hR hF
          rw [← h2, endW_succ, if_pos (by rw [ht1]; exact c_57)]
  have outer : ∀ (n i : Nat) (S1 : Ms) (w1 : fxW), Bi S1 → i + n = W → S1.1 1 0 = (W : Int) → endA j n i S1 = endA j W 0 (sp (sp S 9 j 2) 10 j v) → MoR S1 m w1 → MoF m w w1 → fxR G 5 x (fxQ G x QQ) w1 16 [(3, zi (i : Int)), (0, .ref m), (1, zi (j : Int)), (2, zi v)] [] := by
    intro n
    induction n with
    | zero =>
      intro i S1 w hB1 h1 hW1 h2 hR hF
      refine r_iload_n C d_Mo_end_16 rfl rfl ?_
      refine r_aload_n C d_Mo_end_17 rfl rfl ?_
      refine g_Mo_93 C d_Mo_end_18 hR.1 (hR.sc 1 rfl) ?_
      refine zr_icmp_ge (tgt := 83) C d_Mo_end_21 (by decide) (by unfold zok; omega) (by unfold zok; omega) (fun c_21 => ?_) (fun c_21 => ?_)
      · rw [← hQ]
        exact r_return C d_Mo_end_83 rfl ⟨rfl, by rw [← h2]; exact hR, hF⟩
      · exact absurd c_21 (by omega)
    | succ n ih =>
      intro i S1 w hB1 h1 hW1 h2 hR hF
      have b := hB1.2.2.2.2.2.2.1 i (by omega)
      refine r_iload_n C d_Mo_end_16 rfl rfl ?_
      refine r_aload_n C d_Mo_end_17 rfl rfl ?_
      refine g_Mo_93 C d_Mo_end_18 hR.1 (hR.sc 1 rfl) ?_
      refine zr_icmp_ge (tgt := 83) C d_Mo_end_21 (by decide) (by unfold zok; omega) (by unfold zok; omega) (fun c_21 => ?_) (fun c_21 => ?_)
      · exact absurd c_21 (by omega)
      · refine r_iconst C d_Mo_end_24 rfl ?_
        refine r_istore (ls' := [(4, _), (3, _), (0, _), (1, _), (2, _)]) C d_Mo_end_25 (by decide) rfl ?_
        obtain ⟨q1, q2⟩ := endW_Bi (j : Int) (i := i) (by omega) (S1.1 25 i).toNat 0 S1 hB1 (by have := b.1; omega)
        refine inner i (by omega) (endW i j (S1.1 25 i).toNat 0 S1) (fun w hR hF => ?_) (S1.1 25 i).toNat 0 S1 w hB1 (by have := b.1; omega) rfl hR hF
        refine zr_iinc (ls' := [(3, _), (0, _), (1, _), (2, _)]) C d_Mo_end_77 rfl (by decide) rfl ?_
        refine r_goto (tgt := 16) C d_Mo_end_80 (by decide) ?_
        exact ih (i + 1) _ w q1 (by omega) (by rw [q2 1 0 (by decide) (by decide)]; exact hW1) (by rw [← h2]; rfl) hR hF
  have hF : MoF m w w := MoF.rf
  show fxR G 5 x _ w 0 [(0, .ref m), (1, zi (j : Int)), (2, zi v)] []
  refine r_aload_n C d_Mo_end_0 rfl rfl ?_
  refine g_Mo_32 C d_Mo_end_1 hR.1 (hR.ar 9 rfl) ?_
  refine r_iload_n C d_Mo_end_4 rfl rfl ?_
  refine r_iconst C d_Mo_end_5 rfl ?_
  refine zr_iastore (t := 1) (k := j) C d_Mo_end_6 (by decide) rfl (hR.kd 9 rfl) (by omega) (by show j < 12; omega) (by decide) ?_
  refine mo_abI 9 hR rfl (fun w hR hF9 => ?_)
  have hF := hF.tr hF9
  refine r_aload_n C d_Mo_end_7 rfl rfl ?_
  refine g_Mo_35 C d_Mo_end_8 hR.1 (hR.ar 10 rfl) ?_
  refine r_iload_n C d_Mo_end_11 rfl rfl ?_
  refine r_iload_n C d_Mo_end_12 rfl rfl ?_
  refine zr_iastore (t := 1) (k := j) C d_Mo_end_13 (by decide) rfl (hR.kd 10 rfl) (by omega) (by show j < 12; omega) (by decide) ?_
  refine mo_abI 10 hR rfl (fun w hR hF9 => ?_)
  have hF := hF.tr hF9
  refine r_iconst C d_Mo_end_14 rfl ?_
  refine r_istore_n (ls' := [(3, _), (0, _), (1, _), (2, _)]) C d_Mo_end_15 rfl (by decide) rfl ?_
  exact outer W 0 _ w (Bi_st hB j 2 v (by omega)) (by omega) (by rw [sp_k _ _ _ _ (by decide), sp_k _ _ _ _ (by decide)]; exact hW) rfl hR hF
end
