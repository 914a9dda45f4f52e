section
-- ===== PART A: goes FIRST, ahead of the names: the tables' words, and 'selects' of the private methods out of them =====
/-- a private method of a class that the tables say can be made, by its rows of tables_1 -/
def lw_okq (q : MethodName × Nat) : Prop := (q.1.cls ≠ "java/lang/invoke/MethodHandle" ∧ q.1.cls ≠ "java/lang/invoke/VarHandle") ∧ Cond.instantiable q.1.cls q.2 ∈ tables_1 ∧ Cond.privateMethod q.1 ∈ tables_1 ∧ Cond.instanceMethod q.1 ∈ tables_1
theorem lw_p0 : lw_okq (⟨"java/lang/Throwable", "fillInStackTrace", "(I)Ljava/lang/Throwable;"⟩, 6) := ⟨⟨by decide +kernel, by decide +kernel⟩, List.mem_of_getElem? (i := 188) (by decide +kernel), List.mem_of_getElem? (i := 186) (by decide +kernel), List.mem_of_getElem? (i := 187) (by decide +kernel)⟩
theorem lw_p1 : lw_okq (⟨"ForkPool", "refuseIfBusy", "(LForkPool$Row;)V"⟩, 7) := ⟨⟨by decide +kernel, by decide +kernel⟩, List.mem_of_getElem? (i := 25) (by decide +kernel), List.mem_of_getElem? (i := 218) (by decide +kernel), List.mem_of_getElem? (i := 219) (by decide +kernel)⟩
theorem lw_p2 : lw_okq (⟨"ForkPool", "rowWith", "(II)LForkPool$Row;"⟩, 7) := ⟨⟨by decide +kernel, by decide +kernel⟩, List.mem_of_getElem? (i := 25) (by decide +kernel), List.mem_of_getElem? (i := 250) (by decide +kernel), List.mem_of_getElem? (i := 251) (by decide +kernel)⟩
theorem lw_p3 : lw_okq (⟨"ForkPool", "madeRow", "(I)LForkPool$Row;"⟩, 7) := ⟨⟨by decide +kernel, by decide +kernel⟩, List.mem_of_getElem? (i := 25) (by decide +kernel), List.mem_of_getElem? (i := 254) (by decide +kernel), List.mem_of_getElem? (i := 255) (by decide +kernel)⟩
theorem lw_p4 : lw_okq (⟨"java/util/ArrayList", "add", "(Ljava/lang/Object;[Ljava/lang/Object;I)V"⟩, 3) := ⟨⟨by decide +kernel, by decide +kernel⟩, List.mem_of_getElem? (i := 66) (by decide +kernel), List.mem_of_getElem? (i := 404) (by decide +kernel), List.mem_of_getElem? (i := 405) (by decide +kernel)⟩
theorem lw_p5 : lw_okq (⟨"java/util/ArrayList", "grow", "()[Ljava/lang/Object;"⟩, 3) := ⟨⟨by decide +kernel, by decide +kernel⟩, List.mem_of_getElem? (i := 66) (by decide +kernel), List.mem_of_getElem? (i := 408) (by decide +kernel), List.mem_of_getElem? (i := 409) (by decide +kernel)⟩
theorem lw_p6 : lw_okq (⟨"java/util/ArrayList", "grow", "(I)[Ljava/lang/Object;"⟩, 3) := ⟨⟨by decide +kernel, by decide +kernel⟩, List.mem_of_getElem? (i := 66) (by decide +kernel), List.mem_of_getElem? (i := 412) (by decide +kernel), List.mem_of_getElem? (i := 413) (by decide +kernel)⟩
theorem lw_p7 : lw_okq (⟨"ForkPool", "makeStep", "()Z"⟩, 7) := ⟨⟨by decide +kernel, by decide +kernel⟩, List.mem_of_getElem? (i := 25) (by decide +kernel), List.mem_of_getElem? (i := 463) (by decide +kernel), List.mem_of_getElem? (i := 464) (by decide +kernel)⟩
theorem lw_p8 : lw_okq (⟨"java/util/ArrayList", "fastRemove", "([Ljava/lang/Object;I)V"⟩, 3) := ⟨⟨by decide +kernel, by decide +kernel⟩, List.mem_of_getElem? (i := 66) (by decide +kernel), List.mem_of_getElem? (i := 489) (by decide +kernel), List.mem_of_getElem? (i := 490) (by decide +kernel)⟩
theorem lw_p9 : lw_okq (⟨"ForkPool", "perform", "(LForkPool$Task;LForkPool$Worker;)V"⟩, 7) := ⟨⟨by decide +kernel, by decide +kernel⟩, List.mem_of_getElem? (i := 25) (by decide +kernel), List.mem_of_getElem? (i := 495) (by decide +kernel), List.mem_of_getElem? (i := 496) (by decide +kernel)⟩
theorem lw_p10 : lw_okq (⟨"ForkPool", "mustFork", "(LForkPool$Task;)Z"⟩, 7) := ⟨⟨by decide +kernel, by decide +kernel⟩, List.mem_of_getElem? (i := 25) (by decide +kernel), List.mem_of_getElem? (i := 499) (by decide +kernel), List.mem_of_getElem? (i := 500) (by decide +kernel)⟩
theorem lw_p11 : lw_okq (⟨"ForkPool", "endTask", "(LForkPool$Task;LForkPool$Worker;)V"⟩, 7) := ⟨⟨by decide +kernel, by decide +kernel⟩, List.mem_of_getElem? (i := 25) (by decide +kernel), List.mem_of_getElem? (i := 552) (by decide +kernel), List.mem_of_getElem? (i := 553) (by decide +kernel)⟩
theorem lw_p12 : lw_okq (⟨"ForkPool", "endRound", "(LForkPool$Task;LForkPool$Worker;)V"⟩, 7) := ⟨⟨by decide +kernel, by decide +kernel⟩, List.mem_of_getElem? (i := 25) (by decide +kernel), List.mem_of_getElem? (i := 563) (by decide +kernel), List.mem_of_getElem? (i := 564) (by decide +kernel)⟩
theorem lw_p13 : lw_okq (⟨"ForkPool", "fail", "(LForkPool$Job;I)V"⟩, 7) := ⟨⟨by decide +kernel, by decide +kernel⟩, List.mem_of_getElem? (i := 25) (by decide +kernel), List.mem_of_getElem? (i := 567) (by decide +kernel), List.mem_of_getElem? (i := 568) (by decide +kernel)⟩
theorem lw_p14 : lw_okq (⟨"ForkPool", "findVictim", "(LForkPool$Worker;)LForkPool$Worker;"⟩, 7) := ⟨⟨by decide +kernel, by decide +kernel⟩, List.mem_of_getElem? (i := 25) (by decide +kernel), List.mem_of_getElem? (i := 583) (by decide +kernel), List.mem_of_getElem? (i := 584) (by decide +kernel)⟩
theorem lw_p15 : lw_okq (⟨"ForkPool", "begunJob", "(I)LForkPool$Job;"⟩, 7) := ⟨⟨by decide +kernel, by decide +kernel⟩, List.mem_of_getElem? (i := 25) (by decide +kernel), List.mem_of_getElem? (i := 599) (by decide +kernel), List.mem_of_getElem? (i := 600) (by decide +kernel)⟩
def lw_privs_1 : List (MethodName × Nat) := [(⟨"java/lang/Throwable", "fillInStackTrace", "(I)Ljava/lang/Throwable;"⟩, 6), (⟨"ForkPool", "refuseIfBusy", "(LForkPool$Row;)V"⟩, 7), (⟨"ForkPool", "rowWith", "(II)LForkPool$Row;"⟩, 7), (⟨"ForkPool", "madeRow", "(I)LForkPool$Row;"⟩, 7), (⟨"java/util/ArrayList", "add", "(Ljava/lang/Object;[Ljava/lang/Object;I)V"⟩, 3), (⟨"java/util/ArrayList", "grow", "()[Ljava/lang/Object;"⟩, 3), (⟨"java/util/ArrayList", "grow", "(I)[Ljava/lang/Object;"⟩, 3), (⟨"ForkPool", "makeStep", "()Z"⟩, 7), (⟨"java/util/ArrayList", "fastRemove", "([Ljava/lang/Object;I)V"⟩, 3), (⟨"ForkPool", "perform", "(LForkPool$Task;LForkPool$Worker;)V"⟩, 7), (⟨"ForkPool", "mustFork", "(LForkPool$Task;)Z"⟩, 7), (⟨"ForkPool", "endTask", "(LForkPool$Task;LForkPool$Worker;)V"⟩, 7), (⟨"ForkPool", "endRound", "(LForkPool$Task;LForkPool$Worker;)V"⟩, 7), (⟨"ForkPool", "fail", "(LForkPool$Job;I)V"⟩, 7), (⟨"ForkPool", "findVictim", "(LForkPool$Worker;)LForkPool$Worker;"⟩, 7), (⟨"ForkPool", "begunJob", "(I)LForkPool$Job;"⟩, 7)]
theorem lw_r1 : ∀ q ∈ lw_privs_1, lw_okq q := List.forall_mem_cons.mpr ⟨lw_p0, List.forall_mem_cons.mpr ⟨lw_p1, List.forall_mem_cons.mpr ⟨lw_p2, List.forall_mem_cons.mpr ⟨lw_p3, List.forall_mem_cons.mpr ⟨lw_p4, List.forall_mem_cons.mpr ⟨lw_p5, List.forall_mem_cons.mpr ⟨lw_p6, List.forall_mem_cons.mpr ⟨lw_p7, List.forall_mem_cons.mpr ⟨lw_p8, List.forall_mem_cons.mpr ⟨lw_p9, List.forall_mem_cons.mpr ⟨lw_p10, List.forall_mem_cons.mpr ⟨lw_p11, List.forall_mem_cons.mpr ⟨lw_p12, List.forall_mem_cons.mpr ⟨lw_p13, List.forall_mem_cons.mpr ⟨lw_p14, List.forall_mem_cons.mpr ⟨lw_p15, fun _ h => absurd h List.not_mem_nil⟩⟩⟩⟩⟩⟩⟩⟩⟩⟩⟩⟩⟩⟩⟩⟩
theorem lw_p16 : lw_okq (⟨"ForkPool", "queuedTasks", "(LForkPool$Job;)I"⟩, 7) := ⟨⟨by decide +kernel, by decide +kernel⟩, List.mem_of_getElem? (i := 25) (by decide +kernel), List.mem_of_getElem? (i := 654) (by decide +kernel), List.mem_of_getElem? (i := 655) (by decide +kernel)⟩
theorem lw_p17 : lw_okq (⟨"ForkPool", "workerAt", "(I)LForkPool$Worker;"⟩, 7) := ⟨⟨by decide +kernel, by decide +kernel⟩, List.mem_of_getElem? (i := 25) (by decide +kernel), List.mem_of_getElem? (i := 677) (by decide +kernel), List.mem_of_getElem? (i := 678) (by decide +kernel)⟩
theorem lw_p18 : lw_okq (⟨"ForkPoolModel", "raise", "(I)I"⟩, 33) := ⟨⟨by decide +kernel, by decide +kernel⟩, List.mem_of_getElem? (i := 712) (by decide +kernel), List.mem_of_getElem? (i := 830) (by decide +kernel), List.mem_of_getElem? (i := 831) (by decide +kernel)⟩
theorem lw_p19 : lw_okq (⟨"ForkPoolModel", "busy", "(I)Z"⟩, 33) := ⟨⟨by decide +kernel, by decide +kernel⟩, List.mem_of_getElem? (i := 712) (by decide +kernel), List.mem_of_getElem? (i := 834) (by decide +kernel), List.mem_of_getElem? (i := 835) (by decide +kernel)⟩
theorem lw_p20 : lw_okq (⟨"ForkPoolModel", "noElement", "(II)Z"⟩, 33) := ⟨⟨by decide +kernel, by decide +kernel⟩, List.mem_of_getElem? (i := 712) (by decide +kernel), List.mem_of_getElem? (i := 842) (by decide +kernel), List.mem_of_getElem? (i := 843) (by decide +kernel)⟩
theorem lw_p21 : lw_okq (⟨"ForkPoolModel", "node", "(IIII)I"⟩, 33) := ⟨⟨by decide +kernel, by decide +kernel⟩, List.mem_of_getElem? (i := 712) (by decide +kernel), List.mem_of_getElem? (i := 859) (by decide +kernel), List.mem_of_getElem? (i := 860) (by decide +kernel)⟩
theorem lw_p22 : lw_okq (⟨"ForkPoolModel", "put", "(II)V"⟩, 33) := ⟨⟨by decide +kernel, by decide +kernel⟩, List.mem_of_getElem? (i := 712) (by decide +kernel), List.mem_of_getElem? (i := 863) (by decide +kernel), List.mem_of_getElem? (i := 864) (by decide +kernel)⟩
theorem lw_p23 : lw_okq (⟨"ForkPoolModel", "turns", "()Z"⟩, 33) := ⟨⟨by decide +kernel, by decide +kernel⟩, List.mem_of_getElem? (i := 712) (by decide +kernel), List.mem_of_getElem? (i := 871) (by decide +kernel), List.mem_of_getElem? (i := 872) (by decide +kernel)⟩
theorem lw_p24 : lw_okq (⟨"ForkPoolModel", "pull", "(II)I"⟩, 33) := ⟨⟨by decide +kernel, by decide +kernel⟩, List.mem_of_getElem? (i := 712) (by decide +kernel), List.mem_of_getElem? (i := 875) (by decide +kernel), List.mem_of_getElem? (i := 876) (by decide +kernel)⟩
theorem lw_p25 : lw_okq (⟨"ForkPoolModel", "perform", "(II)V"⟩, 33) := ⟨⟨by decide +kernel, by decide +kernel⟩, List.mem_of_getElem? (i := 712) (by decide +kernel), List.mem_of_getElem? (i := 879) (by decide +kernel), List.mem_of_getElem? (i := 880) (by decide +kernel)⟩
theorem lw_p26 : lw_okq (⟨"ForkPoolModel", "fork", "(II)V"⟩, 33) := ⟨⟨by decide +kernel, by decide +kernel⟩, List.mem_of_getElem? (i := 712) (by decide +kernel), List.mem_of_getElem? (i := 883) (by decide +kernel), List.mem_of_getElem? (i := 884) (by decide +kernel)⟩
theorem lw_p27 : lw_okq (⟨"ForkPoolModel", "joined", "(IJJ)J"⟩, 33) := ⟨⟨by decide +kernel, by decide +kernel⟩, List.mem_of_getElem? (i := 712) (by decide +kernel), List.mem_of_getElem? (i := 887) (by decide +kernel), List.mem_of_getElem? (i := 888) (by decide +kernel)⟩
theorem lw_p28 : lw_okq (⟨"ForkPoolModel", "leaf", "(I)Z"⟩, 33) := ⟨⟨by decide +kernel, by decide +kernel⟩, List.mem_of_getElem? (i := 712) (by decide +kernel), List.mem_of_getElem? (i := 891) (by decide +kernel), List.mem_of_getElem? (i := 892) (by decide +kernel)⟩
theorem lw_p29 : lw_okq (⟨"ForkPoolModel", "reduced", "(I)J"⟩, 33) := ⟨⟨by decide +kernel, by decide +kernel⟩, List.mem_of_getElem? (i := 712) (by decide +kernel), List.mem_of_getElem? (i := 895) (by decide +kernel), List.mem_of_getElem? (i := 896) (by decide +kernel)⟩
theorem lw_p30 : lw_okq (⟨"ForkPoolModel", "spread", "(I)V"⟩, 33) := ⟨⟨by decide +kernel, by decide +kernel⟩, List.mem_of_getElem? (i := 712) (by decide +kernel), List.mem_of_getElem? (i := 899) (by decide +kernel), List.mem_of_getElem? (i := 900) (by decide +kernel)⟩
theorem lw_p31 : lw_okq (⟨"ForkPoolModel", "order", "(III)V"⟩, 33) := ⟨⟨by decide +kernel, by decide +kernel⟩, List.mem_of_getElem? (i := 712) (by decide +kernel), List.mem_of_getElem? (i := 903) (by decide +kernel), List.mem_of_getElem? (i := 904) (by decide +kernel)⟩
def lw_privs_2 : List (MethodName × Nat) := [(⟨"ForkPool", "queuedTasks", "(LForkPool$Job;)I"⟩, 7), (⟨"ForkPool", "workerAt", "(I)LForkPool$Worker;"⟩, 7), (⟨"ForkPoolModel", "raise", "(I)I"⟩, 33), (⟨"ForkPoolModel", "busy", "(I)Z"⟩, 33), (⟨"ForkPoolModel", "noElement", "(II)Z"⟩, 33), (⟨"ForkPoolModel", "node", "(IIII)I"⟩, 33), (⟨"ForkPoolModel", "put", "(II)V"⟩, 33), (⟨"ForkPoolModel", "turns", "()Z"⟩, 33), (⟨"ForkPoolModel", "pull", "(II)I"⟩, 33), (⟨"ForkPoolModel", "perform", "(II)V"⟩, 33), (⟨"ForkPoolModel", "fork", "(II)V"⟩, 33), (⟨"ForkPoolModel", "joined", "(IJJ)J"⟩, 33), (⟨"ForkPoolModel", "leaf", "(I)Z"⟩, 33), (⟨"ForkPoolModel", "reduced", "(I)J"⟩, 33), (⟨"ForkPoolModel", "spread", "(I)V"⟩, 33), (⟨"ForkPoolModel", "order", "(III)V"⟩, 33)]
theorem lw_r2 : ∀ q ∈ lw_privs_2, lw_okq q := List.forall_mem_cons.mpr ⟨lw_p16, List.forall_mem_cons.mpr ⟨lw_p17, List.forall_mem_cons.mpr ⟨lw_p18, List.forall_mem_cons.mpr ⟨lw_p19, List.forall_mem_cons.mpr ⟨lw_p20, List.forall_mem_cons.mpr ⟨lw_p21, List.forall_mem_cons.mpr ⟨lw_p22, List.forall_mem_cons.mpr ⟨lw_p23, List.forall_mem_cons.mpr ⟨lw_p24, List.forall_mem_cons.mpr ⟨lw_p25, List.forall_mem_cons.mpr ⟨lw_p26, List.forall_mem_cons.mpr ⟨lw_p27, List.forall_mem_cons.mpr ⟨lw_p28, List.forall_mem_cons.mpr ⟨lw_p29, List.forall_mem_cons.mpr ⟨lw_p30, List.forall_mem_cons.mpr ⟨lw_p31, fun _ h => absurd h List.not_mem_nil⟩⟩⟩⟩⟩⟩⟩⟩⟩⟩⟩⟩⟩⟩⟩⟩
theorem lw_p32 : lw_okq (⟨"ForkPoolModel", "end", "(II)V"⟩, 33) := ⟨⟨by decide +kernel, by decide +kernel⟩, List.mem_of_getElem? (i := 712) (by decide +kernel), List.mem_of_getElem? (i := 907) (by decide +kernel), List.mem_of_getElem? (i := 908) (by decide +kernel)⟩
theorem lw_p33 : lw_okq (⟨"ForkPoolModel", "mapped", "(IJ)J"⟩, 33) := ⟨⟨by decide +kernel, by decide +kernel⟩, List.mem_of_getElem? (i := 712) (by decide +kernel), List.mem_of_getElem? (i := 911) (by decide +kernel), List.mem_of_getElem? (i := 912) (by decide +kernel)⟩
theorem lw_p34 : lw_okq (⟨"ForkPoolModel", "shared", "(IJ)J"⟩, 33) := ⟨⟨by decide +kernel, by decide +kernel⟩, List.mem_of_getElem? (i := 712) (by decide +kernel), List.mem_of_getElem? (i := 916) (by decide +kernel), List.mem_of_getElem? (i := 917) (by decide +kernel)⟩
theorem lw_p35 : lw_okq (⟨"ForkPoolModel", "finished", "(II)V"⟩, 33) := ⟨⟨by decide +kernel, by decide +kernel⟩, List.mem_of_getElem? (i := 712) (by decide +kernel), List.mem_of_getElem? (i := 924) (by decide +kernel), List.mem_of_getElem? (i := 925) (by decide +kernel)⟩
theorem lw_p36 : lw_okq (⟨"ForkPoolModel", "noJob", "(I)Z"⟩, 33) := ⟨⟨by decide +kernel, by decide +kernel⟩, List.mem_of_getElem? (i := 712) (by decide +kernel), List.mem_of_getElem? (i := 932) (by decide +kernel), List.mem_of_getElem? (i := 933) (by decide +kernel)⟩
theorem lw_p37 : lw_okq (⟨"ForkPoolModel", "inQueues", "(I)I"⟩, 33) := ⟨⟨by decide +kernel, by decide +kernel⟩, List.mem_of_getElem? (i := 712) (by decide +kernel), List.mem_of_getElem? (i := 944) (by decide +kernel), List.mem_of_getElem? (i := 945) (by decide +kernel)⟩
def lw_privs_3 : List (MethodName × Nat) := [(⟨"ForkPoolModel", "end", "(II)V"⟩, 33), (⟨"ForkPoolModel", "mapped", "(IJ)J"⟩, 33), (⟨"ForkPoolModel", "shared", "(IJ)J"⟩, 33), (⟨"ForkPoolModel", "finished", "(II)V"⟩, 33), (⟨"ForkPoolModel", "noJob", "(I)Z"⟩, 33), (⟨"ForkPoolModel", "inQueues", "(I)I"⟩, 33)]
theorem lw_r3 : ∀ q ∈ lw_privs_3, lw_okq q := List.forall_mem_cons.mpr ⟨lw_p32, List.forall_mem_cons.mpr ⟨lw_p33, List.forall_mem_cons.mpr ⟨lw_p34, List.forall_mem_cons.mpr ⟨lw_p35, List.forall_mem_cons.mpr ⟨lw_p36, List.forall_mem_cons.mpr ⟨lw_p37, fun _ h => absurd h List.not_mem_nil⟩⟩⟩⟩⟩⟩
def lw_privs : List (MethodName × Nat) := lw_privs_1 ++ (lw_privs_2 ++ (lw_privs_3))
def lw_tbl : List Cond := k2_sels lw_privs ++ tables_1
theorem lw_privs_ok : ∀ q ∈ lw_privs, lw_okq q := by
  show ∀ q ∈ lw_privs_1 ++ (lw_privs_2 ++ (lw_privs_3)), lw_okq q
  exact List.forall_mem_append.mpr ⟨lw_r1, List.forall_mem_append.mpr ⟨lw_r2, lw_r3⟩⟩
end
section
/-! NAMES: classes, fields, array types, words by program -/
def RFP : String := "ForkPool"
def FFP : u_T := fun k => match k with
  | 0 => ("ForkPool", "rows", "[LForkPool$Row;", true)
  | 1 => ("ForkPool", "workers", "[LForkPool$Worker;", true)
  | 2 => ("ForkPool", "jobs", "[LForkPool$Job;", true)
  | 3 => ("ForkPool", "jobsBegun", "I", false)
  | 4 => ("ForkPool", "stepsMade", "I", false)
  | 5 => ("ForkPool", "nextWorker", "I", false)
  | _ => ("ForkPool", "grain", "I", false)
def tFP : Nat → FieldType := fun k => match k with
  | 0 => (.array (.object "ForkPool$Row"))
  | 1 => (.array (.object "ForkPool$Worker"))
  | 2 => (.array (.object "ForkPool$Job"))
  | 3 => .int
  | 4 => .int
  | 5 => .int
  | _ => .int
def RRow : String := "ForkPool$Row"
def FRow : u_T := fun k => match k with
  | 0 => ("ForkPool$Row", "elements", "[J", true)
  | 1 => ("ForkPool$Row", "type", "I", false)
  | _ => ("ForkPool$Row", "length", "I", false)
def tRow : Nat → FieldType := fun k => match k with
  | 0 => (.array .long)
  | 1 => .int
  | _ => .int
def RJob : String := "ForkPool$Job"
def FJob : u_T := fun k => match k with
  | 0 => ("ForkPool$Job", "number", "I", true)
  | 1 => ("ForkPool$Job", "kind", "I", true)
  | 2 => ("ForkPool$Job", "row", "LForkPool$Row;", true)
  | 3 => ("ForkPool$Job", "c", "I", true)
  | 4 => ("ForkPool$Job", "d", "I", true)
  | 5 => ("ForkPool$Job", "state", "I", false)
  | 6 => ("ForkPool$Job", "failedAt", "I", false)
  | 7 => ("ForkPool$Job", "tasksDone", "I", false)
  | 8 => ("ForkPool$Job", "inSecondRound", "Z", false)
  | _ => ("ForkPool$Job", "result", "J", false)
def tJob : Nat → FieldType := fun k => match k with
  | 0 => .int
  | 1 => .int
  | 2 => (.object "ForkPool$Row")
  | 3 => .int
  | 4 => .int
  | 5 => .int
  | 6 => .int
  | 7 => .int
  | 8 => .boolean
  | _ => .long
def RTask : String := "ForkPool$Task"
def FTask : u_T := fun k => match k with
  | 0 => ("ForkPool$Task", "job", "LForkPool$Job;", true)
  | 1 => ("ForkPool$Task", "parent", "LForkPool$Task;", true)
  | 2 => ("ForkPool$Task", "from", "I", true)
  | 3 => ("ForkPool$Task", "to", "I", true)
  | 4 => ("ForkPool$Task", "first", "LForkPool$Task;", false)
  | 5 => ("ForkPool$Task", "second", "LForkPool$Task;", false)
  | 6 => ("ForkPool$Task", "openParts", "I", false)
  | 7 => ("ForkPool$Task", "result", "J", false)
  | _ => ("ForkPool$Task", "base", "J", false)
def tTask : Nat → FieldType := fun k => match k with
  | 0 => (.object "ForkPool$Job")
  | 1 => (.object "ForkPool$Task")
  | 2 => .int
  | 3 => .int
  | 4 => (.object "ForkPool$Task")
  | 5 => (.object "ForkPool$Task")
  | 6 => .int
  | 7 => .long
  | _ => .long
def RWk : String := "ForkPool$Worker"
def FWk : u_T := fun k => match k with
  | 0 => ("ForkPool$Worker", "queue", "Ljava/util/ArrayList;", true)
  | 1 => ("ForkPool$Worker", "tasksDone", "I", false)
  | 2 => ("ForkPool$Worker", "tasksStolen", "I", false)
  | 3 => ("ForkPool$Worker", "idleSteps", "I", false)
  | _ => ("ForkPool$Worker", "victim", "I", false)
def tWk : Nat → FieldType := fun k => match k with
  | 0 => (.object "java/util/ArrayList")
  | 1 => .int
  | 2 => .int
  | 3 => .int
  | _ => .int
def RAL : String := "java/util/ArrayList"
def FAL : u_T := fun k => match k with
  | 0 => ("java/util/ArrayList", "elementData", "[Ljava/lang/Object;", false)
  | 1 => ("java/util/ArrayList", "size", "I", false)
  | _ => ("java/util/AbstractList", "modCount", "I", false)
def tAL : Nat → FieldType := fun k => match k with
  | 0 => (.array (.object "java/lang/Object"))
  | 1 => .int
  | _ => .int
def RMo : String := "ForkPoolModel"
def FMo : u_T := fun k => match k with
  | 0 => ("ForkPoolModel", "thrown", "I", false)
  | 1 => ("ForkPoolModel", "workers", "I", true)
  | 2 => ("ForkPoolModel", "type", "[I", true)
  | 3 => ("ForkPoolModel", "length", "[I", true)
  | 4 => ("ForkPoolModel", "data", "[J", true)
  | 5 => ("ForkPoolModel", "kind", "[I", true)
  | 6 => ("ForkPoolModel", "on", "[I", true)
  | 7 => ("ForkPoolModel", "c", "[I", true)
  | 8 => ("ForkPoolModel", "d", "[I", true)
  | 9 => ("ForkPoolModel", "state", "[I", true)
  | 10 => ("ForkPoolModel", "failedAt", "[I", true)
  | 11 => ("ForkPoolModel", "did", "[I", true)
  | 12 => ("ForkPoolModel", "root", "[I", true)
  | 13 => ("ForkPoolModel", "round", "[I", true)
  | 14 => ("ForkPoolModel", "jobs", "I", false)
  | 15 => ("ForkPoolModel", "of", "[I", true)
  | 16 => ("ForkPoolModel", "from", "[I", true)
  | 17 => ("ForkPoolModel", "to", "[I", true)
  | 18 => ("ForkPoolModel", "parent", "[I", true)
  | 19 => ("ForkPoolModel", "child", "[I", true)
  | 20 => ("ForkPoolModel", "over", "[I", true)
  | 21 => ("ForkPoolModel", "result", "[J", true)
  | 22 => ("ForkPoolModel", "base", "[J", true)
  | 23 => ("ForkPoolModel", "tasks", "I", false)
  | 24 => ("ForkPoolModel", "queue", "[I", true)
  | 25 => ("ForkPoolModel", "queued", "[I", true)
  | 26 => ("ForkPoolModel", "done", "[I", true)
  | 27 => ("ForkPoolModel", "stolen", "[I", true)
  | 28 => ("ForkPoolModel", "idle", "[I", true)
  | 29 => ("ForkPoolModel", "victim", "[I", true)
  | 30 => ("ForkPoolModel", "grain", "I", false)
  | 31 => ("ForkPoolModel", "steps", "I", false)
  | _ => ("ForkPoolModel", "turn", "I", false)
def tMo : Nat → FieldType := fun k => match k with
  | 0 => .int
  | 1 => .int
  | 2 => (.array .int)
  | 3 => (.array .int)
  | 4 => (.array .long)
  | 5 => (.array .int)
  | 6 => (.array .int)
  | 7 => (.array .int)
  | 8 => (.array .int)
  | 9 => (.array .int)
  | 10 => (.array .int)
  | 11 => (.array .int)
  | 12 => (.array .int)
  | 13 => (.array .int)
  | 14 => .int
  | 15 => (.array .int)
  | 16 => (.array .int)
  | 17 => (.array .int)
  | 18 => (.array .int)
  | 19 => (.array .int)
  | 20 => (.array .int)
  | 21 => (.array .long)
  | 22 => (.array .long)
  | 23 => .int
  | 24 => (.array .int)
  | 25 => (.array .int)
  | 26 => (.array .int)
  | 27 => (.array .int)
  | 28 => (.array .int)
  | 29 => (.array .int)
  | 30 => .int
  | 31 => .int
  | _ => .int
def REIA : String := "java/lang/IllegalArgumentException"
def FEIA : u_T := fun k => match k with
  | _ => ("", "", "", false)
def tEIA : Nat → FieldType := fun k => match k with
  | _ => .int
def REIS : String := "java/lang/IllegalStateException"
def FEIS : u_T := fun k => match k with
  | _ => ("", "", "", false)
def tEIS : Nat → FieldType := fun k => match k with
  | _ => .int
def RENS : String := "java/util/NoSuchElementException"
def FENS : u_T := fun k => match k with
  | _ => ("", "", "", false)
def tENS : Nat → FieldType := fun k => match k with
  | _ => .int
def REAr : String := "java/lang/ArithmeticException"
def FEAr : u_T := fun k => match k with
  | _ => ("", "", "", false)
def tEAr : Nat → FieldType := fun k => match k with
  | _ => .int
def REUn : String := "java/lang/UnsupportedOperationException"
def FEUn : u_T := fun k => match k with
  | _ => ("", "", "", false)
def tEUn : Nat → FieldType := fun k => match k with
  | _ => .int
def fxCl : List vw_C := [(RFP, FFP, 7), (RRow, FRow, 3), (RJob, FJob, 10), (RTask, FTask, 9), (RWk, FWk, 5), (RAL, FAL, 3), (RMo, FMo, 33), (REIA, FEIA, 0), (REIS, FEIS, 0), (RENS, FENS, 0), (REAr, FEAr, 0), (REUn, FEUn, 0)]
def fxAr : List FieldType := [.long, .int, .object "java/lang/Object", .object "ForkPool$Row", .object "ForkPool$Worker", .object "ForkPool$Job"]
def fxok : Cond → Bool
  | .fieldLinkNest .. | .methodLinkNest .. | .castable .. | .declares .. => true
  | .arrayOver (.object _) => true
  | w => goodWord w
def fxTW : List Cond := lw_tbl.filter fxok
theorem fxTW_in {w : Cond} (i : Nat) (h : lw_tbl[i]? = some w) (hk : fxok w = true) : w ∈ fxTW := List.mem_filter.mpr ⟨List.mem_of_getElem? h, hk⟩
theorem fxok_good {w : Cond} (h : goodWord w = true) {args a' : Array Value} {s U : State} (hW : s.WarmedH U.vm) (hb : w.before args s = true) : w.before a' U = true := word_at hW (good_of_word h) hb
theorem fxTW_at {w : Cond} (h : w ∈ fxTW) {args a' : Array Value} {s U : State} (hW : s.WarmedH U.vm) (hb : w.before args s = true) : w.before a' U = true := by
  have hk := (List.mem_filter.mp h).2
  cases w with
  | fieldLinkNest a i b n d h => exact va_Nw.use rfl (va_Nw.warmF hW (va_Nw.of rfl hb))
  | methodLinkNest a i x h => exact va_Nw.use rfl (va_Nw.warmM hW (va_Nw.of rfl hb))
  | castable a b => exact va_Nw.use rfl (va_Nw.warmC hW (va_Nw.of rfl hb))
  | declares x => exact va_Nw.use rfl (va_Nw.warmD hW (va_Nw.of rfl hb))
  | arrayOver ty =>
    cases ty with
    | object C => exact va_AO.use (va_AO.moved hW.alike (va_AO.of hb))
    | _ => (refine fxok_good ?_ hW hb; exact hk)
  | _ => (refine fxok_good ?_ hW hb; exact hk)
theorem inFP : ∀ w ∈ u_ws RFP FFP 7, w ∈ fxTW := by decide +kernel
theorem tyFP : ∀ k, k < 7 → parseFieldDescriptor (FFP k).2.2.1 = some (tFP k) := by decide +kernel
theorem nmFP : ∀ a, a < 7 → ∀ b, b < 7 → a ≠ b → (FFP a).2.1 ≠ (FFP b).2.1 := by decide +kernel
theorem inRow : ∀ w ∈ u_ws RRow FRow 3, w ∈ fxTW := by decide +kernel
theorem tyRow : ∀ k, k < 3 → parseFieldDescriptor (FRow k).2.2.1 = some (tRow k) := by decide +kernel
theorem nmRow : ∀ a, a < 3 → ∀ b, b < 3 → a ≠ b → (FRow a).2.1 ≠ (FRow b).2.1 := by decide +kernel
theorem inJob : ∀ w ∈ u_ws RJob FJob 10, w ∈ fxTW := by decide +kernel
theorem tyJob : ∀ k, k < 10 → parseFieldDescriptor (FJob k).2.2.1 = some (tJob k) := by decide +kernel
theorem nmJob : ∀ a, a < 10 → ∀ b, b < 10 → a ≠ b → (FJob a).2.1 ≠ (FJob b).2.1 := by decide +kernel
theorem inTask : ∀ w ∈ u_ws RTask FTask 9, w ∈ fxTW := by decide +kernel
theorem tyTask : ∀ k, k < 9 → parseFieldDescriptor (FTask k).2.2.1 = some (tTask k) := by decide +kernel
theorem nmTask : ∀ a, a < 9 → ∀ b, b < 9 → a ≠ b → (FTask a).2.1 ≠ (FTask b).2.1 := by decide +kernel
theorem inWk : ∀ w ∈ u_ws RWk FWk 5, w ∈ fxTW := by decide +kernel
theorem tyWk : ∀ k, k < 5 → parseFieldDescriptor (FWk k).2.2.1 = some (tWk k) := by decide +kernel
theorem nmWk : ∀ a, a < 5 → ∀ b, b < 5 → a ≠ b → (FWk a).2.1 ≠ (FWk b).2.1 := by decide +kernel
theorem inAL : ∀ w ∈ u_ws RAL FAL 3, w ∈ fxTW := by decide +kernel
theorem tyAL : ∀ k, k < 3 → parseFieldDescriptor (FAL k).2.2.1 = some (tAL k) := by decide +kernel
theorem nmAL : ∀ a, a < 3 → ∀ b, b < 3 → a ≠ b → (FAL a).2.1 ≠ (FAL b).2.1 := by decide +kernel
theorem inMo : ∀ w ∈ u_ws RMo FMo 33, w ∈ fxTW := by decide +kernel
theorem tyMo : ∀ k, k < 33 → parseFieldDescriptor (FMo k).2.2.1 = some (tMo k) := by decide +kernel
theorem nmMo : ∀ a, a < 33 → ∀ b, b < 33 → a ≠ b → (FMo a).2.1 ≠ (FMo b).2.1 := by decide +kernel
def fxStr : List (String × Nat × String) := [("ForkPool", 50, "array, type or length out of range"), ("ForkPool", 219, "a job on the array is running"), ("ForkPool", 211, "no such array"), ("ForkPool", 213, "no such element"), ("ForkPool", 79, "kind or worker out of range"), ("ForkPool", 81, "c or d out of range"), ("ForkPool", 88, "all jobs were begun"), ("ForkPool", 109, "number of steps out of range"), ("ForkPool", 221, "no such job"), ("ForkPool", 125, "the job has failed"), ("ForkPool", 133, "a job of this kind has no result"), ("ForkPool", 136, "the job is not done"), ("ForkPool", 142, "the job has ended"), ("ForkPool", 158, "no such fact of a job"), ("ForkPool", 223, "no such worker"), ("ForkPool", 170, "no such task"), ("ForkPool", 187, "no such fact of a task"), ("ForkPool", 199, "no such fact of a worker"), ("ForkPool", 201, "grain out of range"), ("ForkPool", 209, "no such count")]
/-- what stays of the start: ArrayList's empty array, the texts, the statics of Throwable -/
def fxO (_ : Launch) (b : Nat) (Hb : Heap) (ad : Nat → Nat) (U : State) : Prop :=
  va_Z "java/util/ArrayList" "DEFAULTCAPACITY_EMPTY_ELEMENTDATA" "[Ljava/lang/Object;" (.ref (ad 0)) (fun q => b ≤ q) U Hb ∧ (∀ q ∈ fxStr, ∃ a, vk_R q.1 q.2.1 q.2.2 a U) ∧
  va_Zq "java/lang/Throwable" "UNASSIGNED_STACK" "[Ljava/lang/StackTraceElement;" (fun q => b ≤ q) U Hb ∧ va_Zq "java/lang/Throwable" "SUPPRESSED_SENTINEL" "Ljava/util/List;" (fun q => b ≤ q) U Hb
theorem fxO_moved {l : Launch} {b : Nat} {Hb : Heap} {ad : Nat → Nat} {u U : State} (hW : u.WarmedH U.vm) (h : fxO l b Hb ad u) : fxO l b Hb ad U :=
  ⟨va_Z.moved hW.alike h.1, fun q hq => by obtain ⟨a, ha⟩ := h.2.1 q hq; exact ⟨a, vk_R.warm hW ha⟩, va_Zq.moved hW.alike h.2.2.1, va_Zq.moved hW.alike h.2.2.2⟩
end
section
/-! THE WORLD AS MAPS. kind of a cell (class number, or 100 + number of the array type, length), fields by number (64 * class + place), elements by array type, the next address, the slots laid so far. -/
abbrev fxW : Type := (Nat → Option (Nat × Nat)) × (Nat → Nat → Value) × (Nat → Nat → Nat → Value) × Nat × Nat
def fxk (w : fxW) : Nat → Option (Nat × Nat) := w.1
def fxf (w : fxW) : Nat → Nat → Value := w.2.1
def fxe (w : fxW) : Nat → Nat → Nat → Value := w.2.2.1
def fxt (w : fxW) : Nat := w.2.2.2.1
def fxu (w : fxW) : Nat := w.2.2.2.2
/-- a field is put -/
def fx_put (w : fxW) (g a : Nat) (v : Value) : fxW := (w.1, fun g' a' => if g' = g then (if a' = a then v else w.2.1 g' a') else w.2.1 g' a', w.2.2)
/-- an element is put -/
def fx_ast (w : fxW) (t a j : Nat) (v : Value) : fxW := (w.1, w.2.1, fun t' a' j' => if t' = t then (if a' = a then (if j' = j then v else w.2.2.1 t' a' j') else w.2.2.1 t' a' j') else w.2.2.1 t' a' j', w.2.2.2)
/-- an object of the class c with n slots is made, its fields by z -/
def fx_new (w : fxW) (c n : Nat) (z : Nat → Value) : fxW := (fun a => if a = w.2.2.2.1 then some (c, 0) else w.1 a, fun g a => if a = w.2.2.2.1 then (if 64 * c ≤ g then z (g - 64 * c) else w.2.1 g a) else w.2.1 g a, w.2.2.1, w.2.2.2.1 + 1, w.2.2.2.2 + n)
/-- an array of the type t and the length n is made, its elements z -/
def fx_newa (w : fxW) (t n : Nat) (z : Value) : fxW := (fun a => if a = w.2.2.2.1 then some (100 + t, n) else w.1 a, w.2.1, fun t' a j => if a = w.2.2.2.1 then z else w.2.2.1 t' a j, w.2.2.2.1 + 1, w.2.2.2.2 + n)
/-- the fixed things: the launch, the classes' numbers and slots, the array classes, the first address that may be written, the heap that was there, the most cells, the most slots, the old addresses -/
abbrev fxG : Type := Launch × va_G × (Nat → ClassId) × Nat × Heap × Nat × Nat × (Nat → Nat)
def fxl (G : fxG) : Launch := G.1
def fxD (G : fxG) : va_G := G.2.1
def fxA (G : fxG) : Nat → ClassId := G.2.2.1
def fxb (G : fxG) : Nat := G.2.2.2.1
def fxHb (G : fxG) : Heap := G.2.2.2.2.1
def fxmt (G : fxG) : Nat := G.2.2.2.2.2.1
def fxmu (G : fxG) : Nat := G.2.2.2.2.2.2.1
def fxad (G : fxG) : Nat → Nat := G.2.2.2.2.2.2.2
/-- the heap holds the world -/
def fxH (G : fxG) (w : fxW) (H : Heap) : Prop :=
  H.size = fxt w ∧ (∀ q : Nat, q < fxb G → H[q]? = (fxHb G)[q]?) ∧ fxb G ≤ fxt w ∧ fxt w ≤ fxmt G ∧ fxu w ≤ fxmu G ∧
  ∀ a c n : Nat, fxk w a = some (c, n) →
    (c < 100 ∧ fxb G ≤ a ∧ ∃ r : vw_C, fxCl[c]? = some r ∧ t_OB a ((fxD G).1 c) r.2.2 ((fxD G).2 c) H (fun k => fxf w (64 * c + k) a)) ∨
    (∃ (t : Nat) (ty : FieldType), t < 100 ∧ ((c = 100 + t ∧ fxb G ≤ a) ∨ c = 200 + t) ∧ fxAr[t]? = some ty ∧ H[a]? = some (arrV (fxA G t) n (fun j => fxe w t a j)))
def fxT (G : fxG) : List (ClassId × FieldType) := (List.range fxAr.length).map fun t => (fxA G t, fxAr.getD t .int)
/-- what the tables say, at a state -/
def fxV (G : fxG) (U : State) : Prop := va_K (fxD G) fxCl (fxT G) U ∧ fxO (fxl G) (fxb G) (fxHb G) (fxad G) U
def fxI (G : fxG) (w : fxW) (U : State) : Prop := fxH G w U.heap ∧ fxV G U
theorem fxV.moved {G : fxG} {u U : State} (hW : u.WarmedH U.vm) (h : fxV G u) : fxV G U := ⟨va_K.moved hW.alike h.1, fxO_moved hW h.2⟩
theorem fxT_at {G : fxG} {t : Nat} {ty : FieldType} (h : fxAr[t]? = some ty) : (fxT G)[t]? = some (fxA G t, ty) := by
  have hl : t < fxAr.length := (List.getElem?_eq_some_iff.mp h).1
  simp [fxT, hl, List.getElem?_map, List.getElem?_range, h]
  exact (List.getElem?_eq_some_iff.mp h).2

/-- the machine's own things: program, environment, room, state at the entry, method, arguments, frames below, method, code, cells and slots at the entry -/
abbrev fxX : Type := Program × Env × Room × State × MethodId × Array Value × List Frame × Method × Code × Nat × Nat
def fxRm (G : fxG) (d : Nat) (w : fxW) : Room := { frames := d, cells := fxmt G - fxt w, slots := fxmu G - fxu w, locals := 38 * d + 20 }
/-- how a method ends -/
def fxE (G : fxG) (t0 u0 : Nat) (P : Outcome → fxW → Prop) (s : State) (o : Outcome) (t : State) : Prop :=
  ∃ w' : fxW, P o w' ∧ fxI G w' t ∧ ∃ (L : List Loc) (k n : Nat), s.WarmedH t.vm ∧ s.sameButNew ({ t with vm := s.vm } : State) L k n ∧ (∀ q ∈ L, fxb G ≤ q.base) ∧ t0 + k = fxt w' ∧ u0 + n = fxu w'
/-- THE CONTRACT: method y with the arguments as, from the world w, ends, and 'P outcome world' -/
def fxM (G : fxG) (d : Nat) (y : MethodName) (as : List Value) (w : fxW) (P : Outcome → fxW → Prop) : Prop :=
  MetFree (fxl G) y (headSpec fxTW (fxRm G d w)) (fun a s => a = as.toArray ∧ fxI G w s) (fun _ _ _ _ _ => True) (fun _ s o t => fxE G (fxt w) (fxu w) P s o t)
/-- what is known inside a method -/
def fxC (G : fxG) (d : Nat) (cc : ByteArray) (nL : Nat) (own nm : String) (ret : Option FieldType) (hh : List (Nat × Nat × Nat × Nat)) (x : fxX) : Prop :=
  match x with
  | (p, e, R, s, m, args, _, meth, c, t0, u0) => p.tables.exec = Jvm.exec ∧ c.code = cc ∧ c.maxLocals = nL ∧ s.vm.findClass own = some m.cls ∧ (∀ w ∈ fxTW, w.before args s = true) ∧ fxV G s ∧ meth.sig.returnType = ret ∧ meth.locks = false ∧ meth.name = nm ∧
    s.heap.size = t0 ∧ t0 + R.cells = fxmt G ∧ u0 + R.slots = fxmu G ∧ d ≤ R.frames ∧ 38 * d + 20 ≤ R.locals ∧ fxb G ≤ t0 ∧ c.exceptionTable.toList.map (fun x => (x.startPc, x.endPc, x.handlerPc, x.catchType)) = hh ∧ (fxl G).admits e
def fxWk (G : fxG) (x : fxX) (H : Heap) (locs : List Loc) (cells slots : Nat) (Q : State → Prop) (pc : Nat) (sl : Array Slot) (st : List Value) : Prop :=
  match x with
  | (p, e, R, s, m, args, below, meth, c, _, _) => W p (fxl G) e R s m args below meth c H locs cells slots Q (F0 m pc sl st)
def fxt0 (x : fxX) : Nat := x.2.2.2.2.2.2.2.2.2.1
def fxu0 (x : fxX) : Nat := x.2.2.2.2.2.2.2.2.2.2
/-- THE WALK: at pc, with the locals ls, the stack st, in the world w -/
def fxR (G : fxG) (nL : Nat) (x : fxX) (Q : State → Prop) (w : fxW) (pc : Nat) (ls : List (Nat × Value)) (st : List Value) : Prop :=
  ∀ (H : Heap) (locs : List Loc) (sl : Array Slot) (cells slots : Nat), fxH G w H → (∀ q ∈ locs, fxb G ≤ q.base) → lv_has sl nL ls → fxt0 x + cells = fxt w → fxu0 x + slots = fxu w → fxWk G x H locs cells slots Q pc sl st
/-- a local -/
def fxL (ls : List (Nat × Value)) (i : Nat) : Option Value := (ls.find? (fun q => q.1 == i)).map (fun q => q.2)
def fxS1 (i : Nat) (v : Value) (ls : List (Nat × Value)) : List (Nat × Value) := (i, v) :: ls.filter (fun q => !(q.1 == i) && !(q.1 + 1 == i && q.2.category == 2))
def fxS2 (i : Nat) (v : Value) (ls : List (Nat × Value)) : List (Nat × Value) := (i, v) :: ls.filter (fun q => !(q.1 == i) && (!(q.1 == i + 1) && !(q.1 + 1 == i && q.2.category == 2)))
theorem fxL_at {sl : Array Slot} {nL : Nat} {ls : List (Nat × Value)} {i : Nat} {v : Value} (h : lv_has sl nL ls) (hl : fxL ls i = some v) : sl[i]? = some (.val v) := by
  unfold fxL at hl
  cases hf : ls.find? (fun q => q.1 == i) with
  | none => rw [hf] at hl; cases hl
  | some q =>
    rw [hf] at hl
    have h1 := List.find?_some hf
    have h2 := List.mem_of_find?_eq_some hf
    have h3 := h.2.2 q h2
    simp at h1 hl
    rw [← h1, ← hl]
    exact h3
theorem fxL_mem {ls : List (Nat × Value)} {i : Nat} {v : Value} (hl : fxL ls i = some v) : (i, v) ∈ ls := by
  unfold fxL at hl
  cases hf : ls.find? (fun q => q.1 == i) with
  | none => rw [hf] at hl; cases hl
  | some q =>
    rw [hf] at hl
    have h1 := List.find?_some hf
    have h2 := List.mem_of_find?_eq_some hf
    simp at h1 hl
    rw [← h1, ← hl]
    exact h2
section FX
variable {G : fxG} {d nL : Nat} {cc : ByteArray} {own nm : String} {ret : Option FieldType} {hh : List (Nat × Nat × Nat × Nat)} {x : fxX} {Q : State → Prop} {w : fxW} {pc : Nat} {ls : List (Nat × Value)} {st : List Value}
/-- fewer locals -/
theorem fx_sub {ls' : List (Nat × Value)} (h : ∀ q ∈ ls', fxL ls q.1 = some q.2) (k : fxR G nL x Q w pc ls' st) : fxR G nL x Q w pc ls st :=
  fun H locs sl cells slots h1 h2 h3 h4 h5 => k H locs sl cells slots h1 h2 ⟨h3.1, h3.2.1, fun q hq => fxL_at h3 (h q hq)⟩ h4 h5
/-- another writing of the same world, stack, place -/
theorem fx_eq {w' : fxW} {st' : List Value} (hw : w = w') (hs : st = st') (k : fxR G nL x Q w' pc ls st') : fxR G nL x Q w pc ls st := by
  subst hw; subst hs; exact k
theorem fx_lift {pc' : Nat} {st' : List Value} (h : ∀ (H : Heap) (locs : List Loc) (sl : Array Slot) (cells slots : Nat), lv_has sl nL ls → fxWk G x H locs cells slots Q pc' sl st' → fxWk G x H locs cells slots Q pc sl st) (k : fxR G nL x Q w pc' ls st') : fxR G nL x Q w pc ls st :=
  fun H locs sl cells slots h1 h2 h3 h4 h5 => h H locs sl cells slots h3 (k H locs sl cells slots h1 h2 h3 h4 h5)
theorem fx_lift2 {A B : Prop} {pc1 pc2 : Nat} {st1 st2 : List Value} (h : ∀ (H : Heap) (locs : List Loc) (sl : Array Slot) (cells slots : Nat), (A → fxWk G x H locs cells slots Q pc1 sl st1) → (B → fxWk G x H locs cells slots Q pc2 sl st2) → fxWk G x H locs cells slots Q pc sl st) (k1 : A → fxR G nL x Q w pc1 ls st1) (k2 : B → fxR G nL x Q w pc2 ls st2) : fxR G nL x Q w pc ls st :=
  fun H locs sl cells slots h1 h2 h3 h4 h5 => h H locs sl cells slots (fun a => k1 a H locs sl cells slots h1 h2 h3 h4 h5) (fun b => k2 b H locs sl cells slots h1 h2 h3 h4 h5)
theorem fx_liftS {ls' : List (Nat × Value)} {pc' : Nat} {st' : List Value} (h : ∀ (H : Heap) (locs : List Loc) (sl : Array Slot) (cells slots : Nat), lv_has sl nL ls → (∀ sl' : Array Slot, lv_has sl' nL ls' → fxWk G x H locs cells slots Q pc' sl' st') → fxWk G x H locs cells slots Q pc sl st) (k : fxR G nL x Q w pc' ls' st') : fxR G nL x Q w pc ls st :=
  fun H locs sl cells slots h1 h2 h3 h4 h5 => h H locs sl cells slots h3 (fun sl' h3' => k H locs sl' cells slots h1 h2 h3' h4 h5)

theorem r_iconst (C : fxC G d cc nL own nm ret hh x) {n : Int} {v : Int32} (hd : decode cc pc = .ok (.iconst n, 1)) (hv : Int32.ofInt n = v) (k : fxR G nL x Q w (pc + 1) ls (.int v :: st)) : fxR G nL x Q w pc ls (st) := by
  obtain ⟨p, e, R, s, m, args, below, meth, c, t0, u0⟩ := x
  obtain ⟨hx, hb, C2⟩ := C
  exact fx_lift (fun H locs sl cells slots h3 kk => lv_iconst hx hb hd hv kk) k
theorem r_bipush (C : fxC G d cc nL own nm ret hh x) {n : Int} {v : Int32} (hd : decode cc pc = .ok (.bipush n, 2)) (hv : (Int8.ofInt n).toInt32 = v) (k : fxR G nL x Q w (pc + 2) ls (.int v :: st)) : fxR G nL x Q w pc ls (st) := by
  obtain ⟨p, e, R, s, m, args, below, meth, c, t0, u0⟩ := x
  obtain ⟨hx, hb, C2⟩ := C
  exact fx_lift (fun H locs sl cells slots h3 kk => lv_bipush hx hb hd hv kk) k
theorem r_sipush (C : fxC G d cc nL own nm ret hh x) {n : Int} {v : Int32} (hd : decode cc pc = .ok (.sipush n, 3)) (hv : (Int16.ofInt n).toInt32 = v) (k : fxR G nL x Q w (pc + 3) ls (.int v :: st)) : fxR G nL x Q w pc ls (st) := by
  obtain ⟨p, e, R, s, m, args, below, meth, c, t0, u0⟩ := x
  obtain ⟨hx, hb, C2⟩ := C
  exact fx_lift (fun H locs sl cells slots h3 kk => lv_sipush hx hb hd hv kk) k
theorem r_lconst (C : fxC G d cc nL own nm ret hh x) {n : Fin 2} {v : Int64} (hd : decode cc pc = .ok (.lconst n, 1)) (hv : Int64.ofNat (n : Nat) = v) (k : fxR G nL x Q w (pc + 1) ls (.long v :: st)) : fxR G nL x Q w pc ls (st) := by
  obtain ⟨p, e, R, s, m, args, below, meth, c, t0, u0⟩ := x
  obtain ⟨hx, hb, C2⟩ := C
  exact fx_lift (fun H locs sl cells slots h3 kk => lv_lconst hx hb hd hv kk) k
theorem r_null (C : fxC G d cc nL own nm ret hh x) (hd : decode cc pc = .ok (.aconst_null, 1)) (k : fxR G nL x Q w (pc + 1) ls (.null :: st)) : fxR G nL x Q w pc ls (st) := by
  obtain ⟨p, e, R, s, m, args, below, meth, c, t0, u0⟩ := x
  obtain ⟨hx, hb, C2⟩ := C
  exact fx_lift (fun H locs sl cells slots h3 kk => lv_null hx hb hd kk) k
theorem r_iload_n (C : fxC G d cc nL own nm ret hh x) {k0 : Fin 4} {i : Nat} {v : Int32} (hd : decode cc pc = .ok (.iload_n k0, 1)) (hi : (k0 : Nat) = i) (hl : fxL ls i = some (.int v)) (k : fxR G nL x Q w (pc + 1) ls (.int v :: st)) : fxR G nL x Q w pc ls (st) := by
  obtain ⟨p, e, R, s, m, args, below, meth, c, t0, u0⟩ := x
  obtain ⟨hx, hb, C2⟩ := C
  exact fx_lift (fun H locs sl cells slots h3 kk => lv_iload_n hx hb hd hi (fxL_at h3 hl) kk) k
theorem r_iload (C : fxC G d cc nL own nm ret hh x) {i : Nat} {v : Int32} (hd : decode cc pc = .ok (.iload i, 2)) (hl : fxL ls i = some (.int v)) (k : fxR G nL x Q w (pc + 2) ls (.int v :: st)) : fxR G nL x Q w pc ls (st) := by
  obtain ⟨p, e, R, s, m, args, below, meth, c, t0, u0⟩ := x
  obtain ⟨hx, hb, C2⟩ := C
  exact fx_lift (fun H locs sl cells slots h3 kk => lv_iload hx hb hd (fxL_at h3 hl) kk) k
theorem r_lload_n (C : fxC G d cc nL own nm ret hh x) {k0 : Fin 4} {i : Nat} {v : Int64} (hd : decode cc pc = .ok (.lload_n k0, 1)) (hi : (k0 : Nat) = i) (hl : fxL ls i = some (.long v)) (k : fxR G nL x Q w (pc + 1) ls (.long v :: st)) : fxR G nL x Q w pc ls (st) := by
  obtain ⟨p, e, R, s, m, args, below, meth, c, t0, u0⟩ := x
  obtain ⟨hx, hb, C2⟩ := C
  exact fx_lift (fun H locs sl cells slots h3 kk => lv_lload_n hx hb hd hi (fxL_at h3 hl) kk) k
theorem r_lload (C : fxC G d cc nL own nm ret hh x) {i : Nat} {v : Int64} (hd : decode cc pc = .ok (.lload i, 2)) (hl : fxL ls i = some (.long v)) (k : fxR G nL x Q w (pc + 2) ls (.long v :: st)) : fxR G nL x Q w pc ls (st) := by
  obtain ⟨p, e, R, s, m, args, below, meth, c, t0, u0⟩ := x
  obtain ⟨hx, hb, C2⟩ := C
  exact fx_lift (fun H locs sl cells slots h3 kk => lv_lload hx hb hd (fxL_at h3 hl) kk) k
theorem r_aload_n (C : fxC G d cc nL own nm ret hh x) {k0 : Fin 4} {i : Nat} {v : Nat} (hd : decode cc pc = .ok (.aload_n k0, 1)) (hi : (k0 : Nat) = i) (hl : fxL ls i = some (.ref v)) (k : fxR G nL x Q w (pc + 1) ls (.ref v :: st)) : fxR G nL x Q w pc ls (st) := by
  obtain ⟨p, e, R, s, m, args, below, meth, c, t0, u0⟩ := x
  obtain ⟨hx, hb, C2⟩ := C
  exact fx_lift (fun H locs sl cells slots h3 kk => lv_aload_n hx hb hd hi (fxL_at h3 hl) kk) k
theorem r_aload (C : fxC G d cc nL own nm ret hh x) {i : Nat} {v : Nat} (hd : decode cc pc = .ok (.aload i, 2)) (hl : fxL ls i = some (.ref v)) (k : fxR G nL x Q w (pc + 2) ls (.ref v :: st)) : fxR G nL x Q w pc ls (st) := by
  obtain ⟨p, e, R, s, m, args, below, meth, c, t0, u0⟩ := x
  obtain ⟨hx, hb, C2⟩ := C
  exact fx_lift (fun H locs sl cells slots h3 kk => lv_aload hx hb hd (fxL_at h3 hl) kk) k
theorem r_aload_nN (C : fxC G d cc nL own nm ret hh x) {k0 : Fin 4} {i : Nat} (hd : decode cc pc = .ok (.aload_n k0, 1)) (hi : (k0 : Nat) = i) (hl : fxL ls i = some .null) (k : fxR G nL x Q w (pc + 1) ls (.null :: st)) : fxR G nL x Q w pc ls (st) := by
  obtain ⟨p, e, R, s, m, args, below, meth, c, t0, u0⟩ := x
  obtain ⟨hx, hb, C2⟩ := C
  exact fx_lift (fun H locs sl cells slots h3 kk => lv_aload_nN hx hb hd hi (fxL_at h3 hl) kk) k
theorem r_aloadN (C : fxC G d cc nL own nm ret hh x) {i : Nat} (hd : decode cc pc = .ok (.aload i, 2)) (hl : fxL ls i = some .null) (k : fxR G nL x Q w (pc + 2) ls (.null :: st)) : fxR G nL x Q w pc ls (st) := by
  obtain ⟨p, e, R, s, m, args, below, meth, c, t0, u0⟩ := x
  obtain ⟨hx, hb, C2⟩ := C
  exact fx_lift (fun H locs sl cells slots h3 kk => lv_aloadN hx hb hd (fxL_at h3 hl) kk) k
theorem r_istore_n (C : fxC G d cc nL own nm ret hh x) {k0 : Fin 4} {i : Nat} {v : Int32} {ls' : List (Nat × Value)} (hd : decode cc pc = .ok (.istore_n k0, 1)) (hi : (k0 : Nat) = i) (hn : i < nL) (hl : fxS1 i (.int v) ls = ls') (k : fxR G nL x Q w (pc + 1) ls' st) : fxR G nL x Q w pc ls (.int v :: st) := by
  obtain ⟨p, e, R, s, m, args, below, meth, c, t0, u0⟩ := x
  obtain ⟨hx, hb, C2⟩ := C
  exact fx_liftS (fun H locs sl cells slots h3 kk => lv_istore_n hx hb hd hi h3 hn hl kk) k
theorem r_istore (C : fxC G d cc nL own nm ret hh x) {i : Nat} {v : Int32} {ls' : List (Nat × Value)} (hd : decode cc pc = .ok (.istore i, 2)) (hn : i < nL) (hl : fxS1 i (.int v) ls = ls') (k : fxR G nL x Q w (pc + 2) ls' st) : fxR G nL x Q w pc ls (.int v :: st) := by
  obtain ⟨p, e, R, s, m, args, below, meth, c, t0, u0⟩ := x
  obtain ⟨hx, hb, C2⟩ := C
  exact fx_liftS (fun H locs sl cells slots h3 kk => lv_istore hx hb hd h3 hn hl kk) k
theorem r_lstore_n (C : fxC G d cc nL own nm ret hh x) {k0 : Fin 4} {i : Nat} {v : Int64} {ls' : List (Nat × Value)} (hd : decode cc pc = .ok (.lstore_n k0, 1)) (hi : (k0 : Nat) = i) (hn : i + 1 < nL) (hl : fxS2 i (.long v) ls = ls') (k : fxR G nL x Q w (pc + 1) ls' st) : fxR G nL x Q w pc ls (.long v :: st) := by
  obtain ⟨p, e, R, s, m, args, below, meth, c, t0, u0⟩ := x
  obtain ⟨hx, hb, C2⟩ := C
  exact fx_liftS (fun H locs sl cells slots h3 kk => lv_lstore_n hx hb hd hi h3 hn hl kk) k
theorem r_lstore (C : fxC G d cc nL own nm ret hh x) {i : Nat} {v : Int64} {ls' : List (Nat × Value)} (hd : decode cc pc = .ok (.lstore i, 2)) (hn : i + 1 < nL) (hl : fxS2 i (.long v) ls = ls') (k : fxR G nL x Q w (pc + 2) ls' st) : fxR G nL x Q w pc ls (.long v :: st) := by
  obtain ⟨p, e, R, s, m, args, below, meth, c, t0, u0⟩ := x
  obtain ⟨hx, hb, C2⟩ := C
  exact fx_liftS (fun H locs sl cells slots h3 kk => lv_lstore hx hb hd h3 hn hl kk) k
theorem r_astore_n (C : fxC G d cc nL own nm ret hh x) {k0 : Fin 4} {i : Nat} {v : Nat} {ls' : List (Nat × Value)} (hd : decode cc pc = .ok (.astore_n k0, 1)) (hi : (k0 : Nat) = i) (hn : i < nL) (hl : fxS1 i (.ref v) ls = ls') (k : fxR G nL x Q w (pc + 1) ls' st) : fxR G nL x Q w pc ls (.ref v :: st) := by
  obtain ⟨p, e, R, s, m, args, below, meth, c, t0, u0⟩ := x
  obtain ⟨hx, hb, C2⟩ := C
  exact fx_liftS (fun H locs sl cells slots h3 kk => lv_astore_n hx hb hd hi h3 hn hl kk) k
theorem r_astore (C : fxC G d cc nL own nm ret hh x) {i : Nat} {v : Nat} {ls' : List (Nat × Value)} (hd : decode cc pc = .ok (.astore i, 2)) (hn : i < nL) (hl : fxS1 i (.ref v) ls = ls') (k : fxR G nL x Q w (pc + 2) ls' st) : fxR G nL x Q w pc ls (.ref v :: st) := by
  obtain ⟨p, e, R, s, m, args, below, meth, c, t0, u0⟩ := x
  obtain ⟨hx, hb, C2⟩ := C
  exact fx_liftS (fun H locs sl cells slots h3 kk => lv_astore hx hb hd h3 hn hl kk) k
theorem r_astore_nN (C : fxC G d cc nL own nm ret hh x) {k0 : Fin 4} {i : Nat} {ls' : List (Nat × Value)} (hd : decode cc pc = .ok (.astore_n k0, 1)) (hi : (k0 : Nat) = i) (hn : i < nL) (hl : fxS1 i .null ls = ls') (k : fxR G nL x Q w (pc + 1) ls' st) : fxR G nL x Q w pc ls (.null :: st) := by
  obtain ⟨p, e, R, s, m, args, below, meth, c, t0, u0⟩ := x
  obtain ⟨hx, hb, C2⟩ := C
  exact fx_liftS (fun H locs sl cells slots h3 kk => lv_astore_nN hx hb hd hi h3 hn hl kk) k
theorem r_astoreN (C : fxC G d cc nL own nm ret hh x) {i : Nat} {ls' : List (Nat × Value)} (hd : decode cc pc = .ok (.astore i, 2)) (hn : i < nL) (hl : fxS1 i .null ls = ls') (k : fxR G nL x Q w (pc + 2) ls' st) : fxR G nL x Q w pc ls (.null :: st) := by
  obtain ⟨p, e, R, s, m, args, below, meth, c, t0, u0⟩ := x
  obtain ⟨hx, hb, C2⟩ := C
  exact fx_liftS (fun H locs sl cells slots h3 kk => lv_astoreN hx hb hd h3 hn hl kk) k
theorem r_iinc (C : fxC G d cc nL own nm ret hh x) {i : Nat} {n : Int} {y v : Int32} {ls' : List (Nat × Value)} (hd : decode cc pc = .ok (.iinc i n, 3)) (hy : fxL ls i = some (.int y)) (hv : y + Int32.ofInt n = v) (hn : i < nL) (hl : fxS1 i (.int v) ls = ls') (k : fxR G nL x Q w (pc + 3) ls' st) : fxR G nL x Q w pc ls st := by
  obtain ⟨p, e, R, s, m, args, below, meth, c, t0, u0⟩ := x
  obtain ⟨hx, hb, C2⟩ := C
  obtain ⟨k9, hk9⟩ := List.getElem?_of_mem (fxL_mem hy)
  exact fx_liftS (fun H locs sl cells slots h3 kk => lv_iinc hx hb hd h3 hk9 hv hn hl kk) k
theorem r_iadd (C : fxC G d cc nL own nm ret hh x) {a b : Int32} (hd : decode cc pc = .ok (.iadd, 1)) (k : fxR G nL x Q w (pc + 1) ls (.int (a + b) :: st)) : fxR G nL x Q w pc ls (.int b :: .int a :: st) := by
  obtain ⟨p, e, R, s, m, args, below, meth, c, t0, u0⟩ := x
  obtain ⟨hx, hb, C2⟩ := C
  exact fx_lift (fun H locs sl cells slots h3 kk => lv_iadd hx hb hd kk) k
theorem r_ladd (C : fxC G d cc nL own nm ret hh x) {a b : Int64} (hd : decode cc pc = .ok (.ladd, 1)) (k : fxR G nL x Q w (pc + 1) ls (.long (a + b) :: st)) : fxR G nL x Q w pc ls (.long b :: .long a :: st) := by
  obtain ⟨p, e, R, s, m, args, below, meth, c, t0, u0⟩ := x
  obtain ⟨hx, hb, C2⟩ := C
  exact fx_lift (fun H locs sl cells slots h3 kk => lv_ladd hx hb hd kk) k
theorem r_isub (C : fxC G d cc nL own nm ret hh x) {a b : Int32} (hd : decode cc pc = .ok (.isub, 1)) (k : fxR G nL x Q w (pc + 1) ls (.int (a - b) :: st)) : fxR G nL x Q w pc ls (.int b :: .int a :: st) := by
  obtain ⟨p, e, R, s, m, args, below, meth, c, t0, u0⟩ := x
  obtain ⟨hx, hb, C2⟩ := C
  exact fx_lift (fun H locs sl cells slots h3 kk => lv_isub hx hb hd kk) k
theorem r_lsub (C : fxC G d cc nL own nm ret hh x) {a b : Int64} (hd : decode cc pc = .ok (.lsub, 1)) (k : fxR G nL x Q w (pc + 1) ls (.long (a - b) :: st)) : fxR G nL x Q w pc ls (.long b :: .long a :: st) := by
  obtain ⟨p, e, R, s, m, args, below, meth, c, t0, u0⟩ := x
  obtain ⟨hx, hb, C2⟩ := C
  exact fx_lift (fun H locs sl cells slots h3 kk => lv_lsub hx hb hd kk) k
theorem r_imul (C : fxC G d cc nL own nm ret hh x) {a b : Int32} (hd : decode cc pc = .ok (.imul, 1)) (k : fxR G nL x Q w (pc + 1) ls (.int (a * b) :: st)) : fxR G nL x Q w pc ls (.int b :: .int a :: st) := by
  obtain ⟨p, e, R, s, m, args, below, meth, c, t0, u0⟩ := x
  obtain ⟨hx, hb, C2⟩ := C
  exact fx_lift (fun H locs sl cells slots h3 kk => lv_imul hx hb hd kk) k
theorem r_lmul (C : fxC G d cc nL own nm ret hh x) {a b : Int64} (hd : decode cc pc = .ok (.lmul, 1)) (k : fxR G nL x Q w (pc + 1) ls (.long (a * b) :: st)) : fxR G nL x Q w pc ls (.long b :: .long a :: st) := by
  obtain ⟨p, e, R, s, m, args, below, meth, c, t0, u0⟩ := x
  obtain ⟨hx, hb, C2⟩ := C
  exact fx_lift (fun H locs sl cells slots h3 kk => lv_lmul hx hb hd kk) k
theorem r_iand (C : fxC G d cc nL own nm ret hh x) {a b : Int32} (hd : decode cc pc = .ok (.iand, 1)) (k : fxR G nL x Q w (pc + 1) ls (.int (a &&& b) :: st)) : fxR G nL x Q w pc ls (.int b :: .int a :: st) := by
  obtain ⟨p, e, R, s, m, args, below, meth, c, t0, u0⟩ := x
  obtain ⟨hx, hb, C2⟩ := C
  exact fx_lift (fun H locs sl cells slots h3 kk => lv_iand hx hb hd kk) k
theorem r_land (C : fxC G d cc nL own nm ret hh x) {a b : Int64} (hd : decode cc pc = .ok (.land, 1)) (k : fxR G nL x Q w (pc + 1) ls (.long (a &&& b) :: st)) : fxR G nL x Q w pc ls (.long b :: .long a :: st) := by
  obtain ⟨p, e, R, s, m, args, below, meth, c, t0, u0⟩ := x
  obtain ⟨hx, hb, C2⟩ := C
  exact fx_lift (fun H locs sl cells slots h3 kk => lv_land hx hb hd kk) k
theorem r_ior (C : fxC G d cc nL own nm ret hh x) {a b : Int32} (hd : decode cc pc = .ok (.ior, 1)) (k : fxR G nL x Q w (pc + 1) ls (.int (a ||| b) :: st)) : fxR G nL x Q w pc ls (.int b :: .int a :: st) := by
  obtain ⟨p, e, R, s, m, args, below, meth, c, t0, u0⟩ := x
  obtain ⟨hx, hb, C2⟩ := C
  exact fx_lift (fun H locs sl cells slots h3 kk => lv_ior hx hb hd kk) k
theorem r_lor (C : fxC G d cc nL own nm ret hh x) {a b : Int64} (hd : decode cc pc = .ok (.lor, 1)) (k : fxR G nL x Q w (pc + 1) ls (.long (a ||| b) :: st)) : fxR G nL x Q w pc ls (.long b :: .long a :: st) := by
  obtain ⟨p, e, R, s, m, args, below, meth, c, t0, u0⟩ := x
  obtain ⟨hx, hb, C2⟩ := C
  exact fx_lift (fun H locs sl cells slots h3 kk => lv_lor hx hb hd kk) k
theorem r_ixor (C : fxC G d cc nL own nm ret hh x) {a b : Int32} (hd : decode cc pc = .ok (.ixor, 1)) (k : fxR G nL x Q w (pc + 1) ls (.int (a ^^^ b) :: st)) : fxR G nL x Q w pc ls (.int b :: .int a :: st) := by
  obtain ⟨p, e, R, s, m, args, below, meth, c, t0, u0⟩ := x
  obtain ⟨hx, hb, C2⟩ := C
  exact fx_lift (fun H locs sl cells slots h3 kk => lv_ixor hx hb hd kk) k
theorem r_lxor (C : fxC G d cc nL own nm ret hh x) {a b : Int64} (hd : decode cc pc = .ok (.lxor, 1)) (k : fxR G nL x Q w (pc + 1) ls (.long (a ^^^ b) :: st)) : fxR G nL x Q w pc ls (.long b :: .long a :: st) := by
  obtain ⟨p, e, R, s, m, args, below, meth, c, t0, u0⟩ := x
  obtain ⟨hx, hb, C2⟩ := C
  exact fx_lift (fun H locs sl cells slots h3 kk => lv_lxor hx hb hd kk) k
theorem r_idiv (C : fxC G d cc nL own nm ret hh x) {a b : Int32} (hd : decode cc pc = .ok (.idiv, 1)) (hne : ¬ b = 0) (k : fxR G nL x Q w (pc + 1) ls (.int (a / b) :: st)) : fxR G nL x Q w pc ls (.int b :: .int a :: st) := by
  obtain ⟨p, e, R, s, m, args, below, meth, c, t0, u0⟩ := x
  obtain ⟨hx, hb, C2⟩ := C
  exact fx_lift (fun H locs sl cells slots h3 kk => lv_idiv hx hb hd hne kk) k
theorem r_irem (C : fxC G d cc nL own nm ret hh x) {a b : Int32} (hd : decode cc pc = .ok (.irem, 1)) (hne : ¬ b = 0) (k : fxR G nL x Q w (pc + 1) ls (.int (a - a / b * b) :: st)) : fxR G nL x Q w pc ls (.int b :: .int a :: st) := by
  obtain ⟨p, e, R, s, m, args, below, meth, c, t0, u0⟩ := x
  obtain ⟨hx, hb, C2⟩ := C
  exact fx_lift (fun H locs sl cells slots h3 kk => lv_irem hx hb hd hne kk) k
theorem r_ldiv (C : fxC G d cc nL own nm ret hh x) {a b : Int64} (hd : decode cc pc = .ok (.ldiv, 1)) (hne : ¬ b = 0) (k : fxR G nL x Q w (pc + 1) ls (.long (a / b) :: st)) : fxR G nL x Q w pc ls (.long b :: .long a :: st) := by
  obtain ⟨p, e, R, s, m, args, below, meth, c, t0, u0⟩ := x
  obtain ⟨hx, hb, C2⟩ := C
  exact fx_lift (fun H locs sl cells slots h3 kk => lv_ldiv hx hb hd hne kk) k
theorem r_lrem (C : fxC G d cc nL own nm ret hh x) {a b : Int64} (hd : decode cc pc = .ok (.lrem, 1)) (hne : ¬ b = 0) (k : fxR G nL x Q w (pc + 1) ls (.long (a - a / b * b) :: st)) : fxR G nL x Q w pc ls (.long b :: .long a :: st) := by
  obtain ⟨p, e, R, s, m, args, below, meth, c, t0, u0⟩ := x
  obtain ⟨hx, hb, C2⟩ := C
  exact fx_lift (fun H locs sl cells slots h3 kk => lv_lrem hx hb hd hne kk) k
theorem r_i2l (C : fxC G d cc nL own nm ret hh x) {a : Int32} {v : Int64} (hd : decode cc pc = .ok (.i2l, 1)) (hv : a.toInt64 = v) (k : fxR G nL x Q w (pc + 1) ls (.long v :: st)) : fxR G nL x Q w pc ls (.int a :: st) := by
  obtain ⟨p, e, R, s, m, args, below, meth, c, t0, u0⟩ := x
  obtain ⟨hx, hb, C2⟩ := C
  exact fx_lift (fun H locs sl cells slots h3 kk => lv_i2l hx hb hd hv kk) k
theorem r_l2i (C : fxC G d cc nL own nm ret hh x) {a : Int64} {v : Int32} (hd : decode cc pc = .ok (.l2i, 1)) (hv : a.toInt32 = v) (k : fxR G nL x Q w (pc + 1) ls (.int v :: st)) : fxR G nL x Q w pc ls (.long a :: st) := by
  obtain ⟨p, e, R, s, m, args, below, meth, c, t0, u0⟩ := x
  obtain ⟨hx, hb, C2⟩ := C
  exact fx_lift (fun H locs sl cells slots h3 kk => lv_l2i hx hb hd hv kk) k
theorem r_i2b (C : fxC G d cc nL own nm ret hh x) {a : Int32} {v : Int32} (hd : decode cc pc = .ok (.i2b, 1)) (hv : a.toInt8.toInt32 = v) (k : fxR G nL x Q w (pc + 1) ls (.int v :: st)) : fxR G nL x Q w pc ls (.int a :: st) := by
  obtain ⟨p, e, R, s, m, args, below, meth, c, t0, u0⟩ := x
  obtain ⟨hx, hb, C2⟩ := C
  exact fx_lift (fun H locs sl cells slots h3 kk => lv_i2b hx hb hd hv kk) k
theorem r_i2s (C : fxC G d cc nL own nm ret hh x) {a : Int32} {v : Int32} (hd : decode cc pc = .ok (.i2s, 1)) (hv : a.toInt16.toInt32 = v) (k : fxR G nL x Q w (pc + 1) ls (.int v :: st)) : fxR G nL x Q w pc ls (.int a :: st) := by
  obtain ⟨p, e, R, s, m, args, below, meth, c, t0, u0⟩ := x
  obtain ⟨hx, hb, C2⟩ := C
  exact fx_lift (fun H locs sl cells slots h3 kk => lv_i2s hx hb hd hv kk) k
theorem r_dup (C : fxC G d cc nL own nm ret hh x) {a : Value} (hd : decode cc pc = .ok (.dup, 1)) (ha : a.category = 1) (k : fxR G nL x Q w (pc + 1) ls (a :: a :: st)) : fxR G nL x Q w pc ls (a :: st) := by
  obtain ⟨p, e, R, s, m, args, below, meth, c, t0, u0⟩ := x
  obtain ⟨hx, hb, C2⟩ := C
  exact fx_lift (fun H locs sl cells slots h3 kk => lv_dup hx hb hd ha kk) k
theorem r_lcmp (C : fxC G d cc nL own nm ret hh x) {a b : Int64} (hd : decode cc pc = .ok (.lcmp, 1)) (k : fxR G nL x Q w (pc + 1) ls (.int (lg_cmp a b) :: st)) : fxR G nL x Q w pc ls (.long b :: .long a :: st) := by
  obtain ⟨p, e, R, s, m, args, below, meth, c, t0, u0⟩ := x
  obtain ⟨hx, hb, C2⟩ := C
  exact fx_lift (fun H locs sl cells slots h3 kk => W.lcmp hx hb hd kk) k
theorem r_if_eq (C : fxC G d cc nL own nm ret hh x) {a : Int32} {off : Int} {tgt : Nat} (hd : decode cc pc = .ok (.ifCond .eq off, 3)) (ht : (pc : Int) + off = (tgt : Int)) (k1 : a = 0 → fxR G nL x Q w tgt ls st) (k2 : ¬ a = 0 → fxR G nL x Q w (pc + 3) ls st) : fxR G nL x Q w pc ls (.int a :: st) := by
  obtain ⟨p, e, R, s, m, args, below, meth, c, t0, u0⟩ := x
  obtain ⟨hx, hb, C2⟩ := C
  exact fx_lift2 (fun H locs sl cells slots q1 q2 => lv_if_eq hx hb hd ht q1 q2) k1 k2
theorem r_icmp_eq (C : fxC G d cc nL own nm ret hh x) {a b : Int32} {off : Int} {tgt : Nat} (hd : decode cc pc = .ok (.if_icmp .eq off, 3)) (ht : (pc : Int) + off = (tgt : Int)) (k1 : a = b → fxR G nL x Q w tgt ls st) (k2 : ¬ a = b → fxR G nL x Q w (pc + 3) ls st) : fxR G nL x Q w pc ls (.int b :: .int a :: st) := by
  obtain ⟨p, e, R, s, m, args, below, meth, c, t0, u0⟩ := x
  obtain ⟨hx, hb, C2⟩ := C
  exact fx_lift2 (fun H locs sl cells slots q1 q2 => lv_icmp_eq hx hb hd ht q1 q2) k1 k2
theorem r_if_ne (C : fxC G d cc nL own nm ret hh x) {a : Int32} {off : Int} {tgt : Nat} (hd : decode cc pc = .ok (.ifCond .ne off, 3)) (ht : (pc : Int) + off = (tgt : Int)) (k1 : ¬ a = 0 → fxR G nL x Q w tgt ls st) (k2 : a = 0 → fxR G nL x Q w (pc + 3) ls st) : fxR G nL x Q w pc ls (.int a :: st) := by
  obtain ⟨p, e, R, s, m, args, below, meth, c, t0, u0⟩ := x
  obtain ⟨hx, hb, C2⟩ := C
  exact fx_lift2 (fun H locs sl cells slots q1 q2 => lv_if_ne hx hb hd ht q1 q2) k1 k2
theorem r_icmp_ne (C : fxC G d cc nL own nm ret hh x) {a b : Int32} {off : Int} {tgt : Nat} (hd : decode cc pc = .ok (.if_icmp .ne off, 3)) (ht : (pc : Int) + off = (tgt : Int)) (k1 : ¬ a = b → fxR G nL x Q w tgt ls st) (k2 : a = b → fxR G nL x Q w (pc + 3) ls st) : fxR G nL x Q w pc ls (.int b :: .int a :: st) := by
  obtain ⟨p, e, R, s, m, args, below, meth, c, t0, u0⟩ := x
  obtain ⟨hx, hb, C2⟩ := C
  exact fx_lift2 (fun H locs sl cells slots q1 q2 => lv_icmp_ne hx hb hd ht q1 q2) k1 k2
theorem r_if_lt (C : fxC G d cc nL own nm ret hh x) {a : Int32} {off : Int} {tgt : Nat} (hd : decode cc pc = .ok (.ifCond .lt off, 3)) (ht : (pc : Int) + off = (tgt : Int)) (k1 : a < 0 → fxR G nL x Q w tgt ls st) (k2 : ¬ a < 0 → fxR G nL x Q w (pc + 3) ls st) : fxR G nL x Q w pc ls (.int a :: st) := by
  obtain ⟨p, e, R, s, m, args, below, meth, c, t0, u0⟩ := x
  obtain ⟨hx, hb, C2⟩ := C
  exact fx_lift2 (fun H locs sl cells slots q1 q2 => lv_if_lt hx hb hd ht q1 q2) k1 k2
theorem r_icmp_lt (C : fxC G d cc nL own nm ret hh x) {a b : Int32} {off : Int} {tgt : Nat} (hd : decode cc pc = .ok (.if_icmp .lt off, 3)) (ht : (pc : Int) + off = (tgt : Int)) (k1 : a < b → fxR G nL x Q w tgt ls st) (k2 : ¬ a < b → fxR G nL x Q w (pc + 3) ls st) : fxR G nL x Q w pc ls (.int b :: .int a :: st) := by
  obtain ⟨p, e, R, s, m, args, below, meth, c, t0, u0⟩ := x
  obtain ⟨hx, hb, C2⟩ := C
  exact fx_lift2 (fun H locs sl cells slots q1 q2 => lv_icmp_lt hx hb hd ht q1 q2) k1 k2
theorem r_if_ge (C : fxC G d cc nL own nm ret hh x) {a : Int32} {off : Int} {tgt : Nat} (hd : decode cc pc = .ok (.ifCond .ge off, 3)) (ht : (pc : Int) + off = (tgt : Int)) (k1 : 0 ≤ a → fxR G nL x Q w tgt ls st) (k2 : ¬ 0 ≤ a → fxR G nL x Q w (pc + 3) ls st) : fxR G nL x Q w pc ls (.int a :: st) := by
  obtain ⟨p, e, R, s, m, args, below, meth, c, t0, u0⟩ := x
  obtain ⟨hx, hb, C2⟩ := C
  exact fx_lift2 (fun H locs sl cells slots q1 q2 => lv_if_ge hx hb hd ht q1 q2) k1 k2
theorem r_icmp_ge (C : fxC G d cc nL own nm ret hh x) {a b : Int32} {off : Int} {tgt : Nat} (hd : decode cc pc = .ok (.if_icmp .ge off, 3)) (ht : (pc : Int) + off = (tgt : Int)) (k1 : b ≤ a → fxR G nL x Q w tgt ls st) (k2 : ¬ b ≤ a → fxR G nL x Q w (pc + 3) ls st) : fxR G nL x Q w pc ls (.int b :: .int a :: st) := by
  obtain ⟨p, e, R, s, m, args, below, meth, c, t0, u0⟩ := x
  obtain ⟨hx, hb, C2⟩ := C
  exact fx_lift2 (fun H locs sl cells slots q1 q2 => lv_icmp_ge hx hb hd ht q1 q2) k1 k2
theorem r_if_gt (C : fxC G d cc nL own nm ret hh x) {a : Int32} {off : Int} {tgt : Nat} (hd : decode cc pc = .ok (.ifCond .gt off, 3)) (ht : (pc : Int) + off = (tgt : Int)) (k1 : 0 < a → fxR G nL x Q w tgt ls st) (k2 : ¬ 0 < a → fxR G nL x Q w (pc + 3) ls st) : fxR G nL x Q w pc ls (.int a :: st) := by
  obtain ⟨p, e, R, s, m, args, below, meth, c, t0, u0⟩ := x
  obtain ⟨hx, hb, C2⟩ := C
  exact fx_lift2 (fun H locs sl cells slots q1 q2 => lv_if_gt hx hb hd ht q1 q2) k1 k2
theorem r_icmp_gt (C : fxC G d cc nL own nm ret hh x) {a b : Int32} {off : Int} {tgt : Nat} (hd : decode cc pc = .ok (.if_icmp .gt off, 3)) (ht : (pc : Int) + off = (tgt : Int)) (k1 : b < a → fxR G nL x Q w tgt ls st) (k2 : ¬ b < a → fxR G nL x Q w (pc + 3) ls st) : fxR G nL x Q w pc ls (.int b :: .int a :: st) := by
  obtain ⟨p, e, R, s, m, args, below, meth, c, t0, u0⟩ := x
  obtain ⟨hx, hb, C2⟩ := C
  exact fx_lift2 (fun H locs sl cells slots q1 q2 => lv_icmp_gt hx hb hd ht q1 q2) k1 k2
theorem r_if_le (C : fxC G d cc nL own nm ret hh x) {a : Int32} {off : Int} {tgt : Nat} (hd : decode cc pc = .ok (.ifCond .le off, 3)) (ht : (pc : Int) + off = (tgt : Int)) (k1 : a ≤ 0 → fxR G nL x Q w tgt ls st) (k2 : ¬ a ≤ 0 → fxR G nL x Q w (pc + 3) ls st) : fxR G nL x Q w pc ls (.int a :: st) := by
  obtain ⟨p, e, R, s, m, args, below, meth, c, t0, u0⟩ := x
  obtain ⟨hx, hb, C2⟩ := C
  exact fx_lift2 (fun H locs sl cells slots q1 q2 => lv_if_le hx hb hd ht q1 q2) k1 k2
theorem r_icmp_le (C : fxC G d cc nL own nm ret hh x) {a b : Int32} {off : Int} {tgt : Nat} (hd : decode cc pc = .ok (.if_icmp .le off, 3)) (ht : (pc : Int) + off = (tgt : Int)) (k1 : a ≤ b → fxR G nL x Q w tgt ls st) (k2 : ¬ a ≤ b → fxR G nL x Q w (pc + 3) ls st) : fxR G nL x Q w pc ls (.int b :: .int a :: st) := by
  obtain ⟨p, e, R, s, m, args, below, meth, c, t0, u0⟩ := x
  obtain ⟨hx, hb, C2⟩ := C
  exact fx_lift2 (fun H locs sl cells slots q1 q2 => lv_icmp_le hx hb hd ht q1 q2) k1 k2
theorem r_acmp_eq (C : fxC G d cc nL own nm ret hh x) {ra rb : Option Nat} {off : Int} {tgt : Nat} (hd : decode cc pc = .ok (.if_acmp .eq off, 3)) (ht : (pc : Int) + off = (tgt : Int)) (k1 : ra = rb → fxR G nL x Q w tgt ls st) (k2 : ¬ ra = rb → fxR G nL x Q w (pc + 3) ls st) : fxR G nL x Q w pc ls (va_rf rb :: va_rf ra :: st) := by
  obtain ⟨p, e, R, s, m, args, below, meth, c, t0, u0⟩ := x
  obtain ⟨hx, hb, C2⟩ := C
  exact fx_lift2 (fun H locs sl cells slots q1 q2 => lv_acmp_eq hx hb hd ht q1 q2) k1 k2
theorem r_acmp_ne (C : fxC G d cc nL own nm ret hh x) {ra rb : Option Nat} {off : Int} {tgt : Nat} (hd : decode cc pc = .ok (.if_acmp .ne off, 3)) (ht : (pc : Int) + off = (tgt : Int)) (k1 : ¬ ra = rb → fxR G nL x Q w tgt ls st) (k2 : ra = rb → fxR G nL x Q w (pc + 3) ls st) : fxR G nL x Q w pc ls (va_rf rb :: va_rf ra :: st) := by
  obtain ⟨p, e, R, s, m, args, below, meth, c, t0, u0⟩ := x
  obtain ⟨hx, hb, C2⟩ := C
  exact fx_lift2 (fun H locs sl cells slots q1 q2 => lv_acmp_ne hx hb hd ht q1 q2) k1 k2
theorem r_goto (C : fxC G d cc nL own nm ret hh x) {off : Int} {tgt : Nat} (hd : decode cc pc = .ok (.goto off, 3)) (ht : (pc : Int) + off = (tgt : Int)) (k : fxR G nL x Q w tgt ls st) : fxR G nL x Q w pc ls st := by
  obtain ⟨p, e, R, s, m, args, below, meth, c, t0, u0⟩ := x
  obtain ⟨hx, hb, C2⟩ := C
  exact fx_lift (fun H locs sl cells slots h3 kk => lv_goto hx hb hd ht kk) k
theorem r_ifnonnull (C : fxC G d cc nL own nm ret hh x) {a : Nat} {off : Int} {tgt : Nat} (hd : decode cc pc = .ok (.ifnonnull off, 3)) (ht : (pc : Int) + off = (tgt : Int)) (k : fxR G nL x Q w tgt ls st) : fxR G nL x Q w pc ls (.ref a :: st) := by
  obtain ⟨p, e, R, s, m, args, below, meth, c, t0, u0⟩ := x
  obtain ⟨hx, hb, C2⟩ := C
  exact fx_lift (fun H locs sl cells slots h3 kk => lv_ifnonnull hx hb hd ht kk) k
theorem r_ifnonnullN (C : fxC G d cc nL own nm ret hh x) {off : Int} (hd : decode cc pc = .ok (.ifnonnull off, 3)) (k : fxR G nL x Q w (pc + 3) ls st) : fxR G nL x Q w pc ls (.null :: st) := by
  obtain ⟨p, e, R, s, m, args, below, meth, c, t0, u0⟩ := x
  obtain ⟨hx, hb, C2⟩ := C
  exact fx_lift (fun H locs sl cells slots h3 kk => lv_ifnonnullN hx hb hd kk) k
theorem r_ifnull (C : fxC G d cc nL own nm ret hh x) {a : Nat} {off : Int} (hd : decode cc pc = .ok (.ifnull off, 3)) (k : fxR G nL x Q w (pc + 3) ls st) : fxR G nL x Q w pc ls (.ref a :: st) := by
  obtain ⟨p, e, R, s, m, args, below, meth, c, t0, u0⟩ := x
  obtain ⟨hx, hb, C2⟩ := C
  exact fx_lift (fun H locs sl cells slots h3 kk => lv_ifnull hx hb hd kk) k
theorem r_ifnullN (C : fxC G d cc nL own nm ret hh x) {off : Int} {tgt : Nat} (hd : decode cc pc = .ok (.ifnull off, 3)) (ht : (pc : Int) + off = (tgt : Int)) (k : fxR G nL x Q w tgt ls st) : fxR G nL x Q w pc ls (.null :: st) := by
  obtain ⟨p, e, R, s, m, args, below, meth, c, t0, u0⟩ := x
  obtain ⟨hx, hb, C2⟩ := C
  exact fx_lift (fun H locs sl cells slots h3 kk => lv_ifnullN hx hb hd ht kk) k
theorem r_tableOut (C : fxC G d cc nL own nm ret hh x) {dflt lo hi : Int} {offs : Array Int} {len : Nat} {a : Int32} {tgt : Nat} (hd : decode cc pc = .ok (.tableswitch dflt lo hi offs, len)) (h : a.toInt < lo ∨ hi < a.toInt) (ht : (pc : Int) + dflt = (tgt : Int)) (k : fxR G nL x Q w tgt ls st) : fxR G nL x Q w pc ls (.int a :: st) := by
  obtain ⟨p, e, R, s, m, args, below, meth, c, t0, u0⟩ := x
  obtain ⟨hx, hb, C2⟩ := C
  exact fx_lift (fun H locs sl cells slots h3 kk => lv_tableOut hx hb hd h ht kk) k
theorem r_tableIn (C : fxC G d cc nL own nm ret hh x) {dflt lo hi : Int} {offs : Array Int} {len : Nat} {a : Int32} {off : Int} {tgt : Nat} (hd : decode cc pc = .ok (.tableswitch dflt lo hi offs, len)) (h1 : ¬ a.toInt < lo) (h2 : ¬ hi < a.toInt) (ho : offs[(a.toInt - lo).toNat]? = some off) (ht : (pc : Int) + off = (tgt : Int)) (k : fxR G nL x Q w tgt ls st) : fxR G nL x Q w pc ls (.int a :: st) := by
  obtain ⟨p, e, R, s, m, args, below, meth, c, t0, u0⟩ := x
  obtain ⟨hx, hb, C2⟩ := C
  exact fx_lift (fun H locs sl cells slots h3 kk => lv_tableIn hx hb hd h1 h2 ho ht kk) k
theorem r_lookup (C : fxC G d cc nL own nm ret hh x) {dflt : Int} {ps : Array (Int × Int)} {len : Nat} {a : Int32} {off : Int} {tgt : Nat} (hd : decode cc pc = .ok (.lookupswitch dflt ps, len)) (hp : (ps.toList.zip (ps.toList.drop 1)).all (fun (a, next) => a.1 < next.1) = true) (ho : Op.lookupswitch.offset ps.toList dflt a.toInt = off) (ht : (pc : Int) + off = (tgt : Int)) (k : fxR G nL x Q w tgt ls st) : fxR G nL x Q w pc ls (.int a :: st) := by
  obtain ⟨p, e, R, s, m, args, below, meth, c, t0, u0⟩ := x
  obtain ⟨hx, hb, C2⟩ := C
  exact fx_lift (fun H locs sl cells slots h3 kk => lv_lookup hx hb hd hp ho ht kk) k
end FX
end
section
/-! ROWS OVER THE HEAP -/
def fxQ (G : fxG) (x : fxX) (P : Outcome → fxW → Prop) : State → Prop :=
  match x with
  | (_, _, _, s, _, _, below, _, _, t0, u0) => fun t => ∃ o, t.status = .running ∧ Ended t below o ∧ fxE G t0 u0 P s o t
theorem fxH.obj {G : fxG} {w : fxW} {H : Heap} {a c n : Nat} (h : fxH G w H) (hk : fxk w a = some (c, n)) (hc : c < 100) : fxb G ≤ a ∧ ∃ r : vw_C, fxCl[c]? = some r ∧ t_OB a ((fxD G).1 c) r.2.2 ((fxD G).2 c) H (fun k => fxf w (64 * c + k) a) := by
  rcases h.2.2.2.2.2 a c n hk with ⟨-, h1, h2⟩ | ⟨t, ty, -, h1, -⟩
  · exact ⟨h1, h2⟩
  · omega
theorem fxH.arr {G : fxG} {w : fxW} {H : Heap} {a t n : Nat} (h : fxH G w H) (ht : t < 100) (hk : fxk w a = some (100 + t, n)) : fxb G ≤ a ∧ ∃ ty : FieldType, fxAr[t]? = some ty ∧ H[a]? = some (arrV (fxA G t) n (fun j => fxe w t a j)) := by
  rcases h.2.2.2.2.2 a _ n hk with ⟨h0, -⟩ | ⟨t', ty, h0, h1, h2, h3⟩
  · omega
  · rcases h1 with ⟨h1, h4⟩ | h1
    · have e : t = t' := by omega
      subst e
      exact ⟨h4, ty, h2, h3⟩
    · omega
theorem fxH.rarr {G : fxG} {w : fxW} {H : Heap} {a t n : Nat} (h : fxH G w H) (ht : t < 100) (hk : fxk w a = some (100 + t, n) ∨ fxk w a = some (200 + t, n)) : ∃ ty : FieldType, fxAr[t]? = some ty ∧ H[a]? = some (arrV (fxA G t) n (fun j => fxe w t a j)) := by
  rcases hk with hk | hk
  · exact (h.arr ht hk).2
  · rcases h.2.2.2.2.2 a _ n hk with ⟨h0, -⟩ | ⟨t', ty, h0, h1, h2, h3⟩
    · omega
    · rcases h1 with ⟨h1, h4⟩ | h1
      · omega
      · have e : t = t' := by omega
        subst e
        exact ⟨ty, h2, h3⟩
theorem fxH.lt {G : fxG} {w : fxW} {H : Heap} {a : Nat} {q : Nat × Nat} (h : fxH G w H) (hk : fxk w a = some q) : a < fxt w := by
  obtain ⟨c, n⟩ := q
  rw [← h.1]
  rcases h.2.2.2.2.2 a c n hk with ⟨-, -, r, -, cell, h1, -⟩ | ⟨t, ty, -, -, -, h1⟩
  · exact (Array.getElem?_eq_some_iff.mp h1).1
  · exact (Array.getElem?_eq_some_iff.mp h1).1
theorem fxH.put {G : fxG} {w : fxW} {H H' : Heap} {a c n k0 : Nat} {v : Value} (h : fxH G w H) (hk : fxk w a = some (c, n)) (hc : c < 100) (hz : H'.size = H.size) (ho : ∀ q : Nat, q ≠ a → H'[q]? = H[q]?)
    (hn : ∀ r : vw_C, fxCl[c]? = some r → t_OB a ((fxD G).1 c) r.2.2 ((fxD G).2 c) H' (updV (fun k => fxf w (64 * c + k) a) k0 v)) : fxH G (fx_put w (64 * c + k0) a v) H' := by
  obtain ⟨hba, r, hr, -⟩ := h.obj hk hc
  refine ⟨hz.trans h.1, fun q hq => (ho q (by omega)).trans (h.2.1 q hq), h.2.2.1, h.2.2.2.1, h.2.2.2.2.1, fun b c' n' hb => ?_⟩
  have hb' : fxk w b = some (c', n') := hb
  by_cases hab : b = a
  · subst hab
    cases hb'.symm.trans hk
    refine Or.inl ⟨hc, hba, r, hr, (hn r hr).to fun k _ => ?_⟩
    show updV _ k0 v k = (if 64 * c + k = 64 * c + k0 then (if b = b then v else w.2.1 (64 * c + k) b) else w.2.1 (64 * c + k) b)
    by_cases hkk : k = k0
    · subst hkk; simp [updV]
    · rw [if_neg (by omega)]; simp [updV, hkk]; rfl
  · rcases h.2.2.2.2.2 b c' n' hb' with ⟨h1, h2, r', h3, h4⟩ | ⟨t, ty, h1, h2, h3, h4⟩
    · refine Or.inl ⟨h1, h2, r', h3, (h4.kept (ho b hab)).to fun k _ => ?_⟩
      show w.2.1 (64 * c' + k) b = (if 64 * c' + k = 64 * c + k0 then (if b = a then v else w.2.1 (64 * c' + k) b) else w.2.1 (64 * c' + k) b)
      simp [hab]
    · exact Or.inr ⟨t, ty, h1, h2, h3, (ho b hab).trans h4⟩
theorem fxH.ast {G : fxG} {w : fxW} {H H' : Heap} {a t n j : Nat} {v : Value} (h : fxH G w H) (ht : t < 100) (hk : fxk w a = some (100 + t, n)) (hz : H'.size = H.size) (ho : ∀ q : Nat, q ≠ a → H'[q]? = H[q]?)
    (hn : H'[a]? = some (arrV (fxA G t) n (updV (fun j => fxe w t a j) j v))) : fxH G (fx_ast w t a j v) H' := by
  obtain ⟨hba, ty, hty, -⟩ := h.arr ht hk
  refine ⟨hz.trans h.1, fun q hq => (ho q (by omega)).trans (h.2.1 q hq), h.2.2.1, h.2.2.2.1, h.2.2.2.2.1, fun b c' n' hb => ?_⟩
  have hb' : fxk w b = some (c', n') := hb
  by_cases hab : b = a
  · subst hab
    cases hb'.symm.trans hk
    refine Or.inr ⟨t, ty, ht, Or.inl ⟨rfl, hba⟩, hty, hn.trans ?_⟩
    congr 2
    funext i
    show updV _ j v i = (if t = t then (if b = b then (if i = j then v else w.2.2.1 t b i) else w.2.2.1 t b i) else w.2.2.1 t b i)
    by_cases hij : i = j
    · subst hij; simp [updV]
    · simp [updV, hij]; rfl
  · rcases h.2.2.2.2.2 b c' n' hb' with ⟨h1, h2, r', h3, h4⟩ | ⟨t', ty', h1, h2, h3, h4⟩
    · exact Or.inl ⟨h1, h2, r', h3, h4.kept (ho b hab)⟩
    · refine Or.inr ⟨t', ty', h1, h2, h3, ((ho b hab).trans h4).trans ?_⟩
      congr 2
      funext i
      show w.2.2.1 t' b i = (if t' = t then (if b = a then (if i = j then v else w.2.2.1 t' b i) else w.2.2.1 t' b i) else w.2.2.1 t' b i)
      simp [hab]
theorem fxH.new {G : fxG} {w : fxW} {H H' : Heap} {c n : Nat} {z : Nat → Value} (h : fxH G w H) (hc : c < 100) (hz : H'.size = fxt w + 1) (ho : ∀ q : Nat, q < fxt w → H'[q]? = H[q]?) (h1 : fxt w + 1 ≤ fxmt G) (h2 : fxu w + n ≤ fxmu G)
    (hn : ∃ r : vw_C, fxCl[c]? = some r ∧ t_OB (fxt w) ((fxD G).1 c) r.2.2 ((fxD G).2 c) H' z) : fxH G (fx_new w c n z) H' := by
  obtain ⟨r, hr, hob⟩ := hn
  have hbt := h.2.2.1
  refine ⟨hz, fun q hq => (ho q (by omega)).trans (h.2.1 q hq), by show fxb G ≤ fxt w + 1; omega, h1, h2, fun b c' n' hb => ?_⟩
  have hb' : (if b = fxt w then some (c, 0) else fxk w b) = some (c', n') := hb
  by_cases hab : b = fxt w
  · rw [if_pos hab] at hb'
    cases hb'
    subst hab
    refine Or.inl ⟨hc, hbt, r, hr, hob.to fun k _ => ?_⟩
    show z k = (if fxt w = fxt w then (if 64 * c ≤ 64 * c + k then z (64 * c + k - 64 * c) else _) else _)
    simp
  · rw [if_neg hab] at hb'
    have hlt := h.lt hb'
    rcases h.2.2.2.2.2 b c' n' hb' with ⟨h1, h2, r', h3, h4⟩ | ⟨t', ty', h1, h2, h3, h4⟩
    · refine Or.inl ⟨h1, h2, r', h3, (h4.kept (ho b hlt)).to fun k _ => ?_⟩
      show w.2.1 (64 * c' + k) b = (if b = fxt w then _ else w.2.1 (64 * c' + k) b)
      rw [if_neg hab]
    · exact Or.inr ⟨t', ty', h1, h2, h3, (ho b hlt).trans h4⟩
theorem fxH.newa {G : fxG} {w : fxW} {H H' : Heap} {t n : Nat} {z : Value} {ty : FieldType} (h : fxH G w H) (ht : t < 100) (hty : fxAr[t]? = some ty) (hz : H'.size = fxt w + 1) (ho : ∀ q : Nat, q < fxt w → H'[q]? = H[q]?) (h1 : fxt w + 1 ≤ fxmt G) (h2 : fxu w + n ≤ fxmu G)
    (hn : H'[fxt w]? = some (arrV (fxA G t) n (fun _ => z))) : fxH G (fx_newa w t n z) H' := by
  have hbt := h.2.2.1
  refine ⟨hz, fun q hq => (ho q (by omega)).trans (h.2.1 q hq), by show fxb G ≤ fxt w + 1; omega, h1, h2, fun b c' n' hb => ?_⟩
  have hb' : (if b = fxt w then some (100 + t, n) else fxk w b) = some (c', n') := hb
  by_cases hab : b = fxt w
  · rw [if_pos hab] at hb'
    cases hb'
    subst hab
    refine Or.inr ⟨t, ty, ht, Or.inl ⟨rfl, hbt⟩, hty, hn.trans ?_⟩
    congr 2
    funext i
    show z = (if fxt w = fxt w then z else _)
    simp
  · rw [if_neg hab] at hb'
    have hlt := h.lt hb'
    rcases h.2.2.2.2.2 b c' n' hb' with ⟨h1, h2, r', h3, h4⟩ | ⟨t', ty', h1, h2, h3, h4⟩
    · exact Or.inl ⟨h1, h2, r', h3, h4.kept (ho b hlt)⟩
    · refine Or.inr ⟨t', ty', h1, h2, h3, ((ho b hlt).trans h4).trans ?_⟩
      congr 2
      funext i
      show w.2.2.1 t' b i = (if b = fxt w then z else w.2.2.1 t' b i)
      rw [if_neg hab]
section FXH
variable {G : fxG} {d nL : Nat} {cc : ByteArray} {own nm : String} {ret : Option FieldType} {hh : List (Nat × Nat × Nat × Nat)} {x : fxX} {Q : State → Prop} {w : fxW} {pc : Nat} {ls : List (Nat × Value)} {st : List Value}
/-- what the tables say of a field reference: its class is the declarer, or the two names are of one field -/
def fxSame (ref decl name desc : String) : Prop := ref = decl ∨ Cond.sameField ref decl name desc ∈ fxTW
theorem fxSame.use {ref decl name desc : String} (h : fxSame ref decl name desc) {args : Array Value} {s : State} (hts : ∀ w ∈ fxTW, w.before args s = true) : ∀ y, s.fieldFound? decl name desc = some y → s.fieldFound? ref name desc = some y := by
  intro y hy
  rcases h with rfl | h
  · exact hy
  · exact u_same (hts _ h) y hy
theorem r_get (C : fxC G d cc nL own nm ret hh x) {Cn ref : String} {T : u_T} {N ci idx k0 a n : Nat} {v : Value} (hd : decode cc pc = .ok (.getfield idx, 3)) (hc : fxCl[ci]? = some (Cn, T, N)) (hci : ci < 100) (hws : ∀ w ∈ u_ws Cn T N, w ∈ fxTW) (hk : k0 < N) (hl : Cond.fieldLink own idx ref (T k0).2.1 (T k0).2.2.1 ∈ fxTW) (hs : fxSame ref (T k0).1 (T k0).2.1 (T k0).2.2.1)
    (ha : fxk w a = some (ci, n)) (hv : fxf w (64 * ci + k0) a = v) (k : fxR G nL x Q w (pc + 3) ls (v :: st)) : fxR G nL x Q w pc ls (.ref a :: st) := by
  obtain ⟨p, e, R, s, m, args, below, meth, c, t0, u0⟩ := x
  obtain ⟨hx, hb, hml, hown, hts, hV, C2⟩ := C
  intro H locs sl cells slots h1 h2 h3 h4 h5
  obtain ⟨-, r, hr, cell, q1, q2, q3, q4⟩ := h1.obj ha hci
  cases hr.symm.trans hc
  obtain ⟨hS, hfc, kC, hkC, hkind⟩ := hV.1.1 ci _ hc
  obtain ⟨cf, kf, fi, f, hi, hsl⟩ := hS k0 hk
  exact W.getf hx hb hown (hts _ hl) (hs.use hts _ hi) (u_facts hfc hkC (u_lays hts hws hk) hi).1 q1 (by rw [q3]; exact fun h => by cases h) (v := v) (by rw [hsl, q4 k0 hk]; exact congrArg some hv) rfl rfl hd (k H locs sl cells slots h1 h2 h3 h4 h5)
theorem r_getN (C : fxC G d cc nL own nm ret hh x) {Cn ref host : String} {T : u_T} {N ci idx k0 a n : Nat} {v : Value} (hd : decode cc pc = .ok (.getfield idx, 3)) (hc : fxCl[ci]? = some (Cn, T, N)) (hci : ci < 100) (hws : ∀ w ∈ u_ws Cn T N, w ∈ fxTW) (hk : k0 < N) (hl : Cond.fieldLinkNest own idx ref (T k0).2.1 (T k0).2.2.1 host ∈ fxTW) (hs : fxSame ref (T k0).1 (T k0).2.1 (T k0).2.2.1)
    (ha : fxk w a = some (ci, n)) (hv : fxf w (64 * ci + k0) a = v) (k : fxR G nL x Q w (pc + 3) ls (v :: st)) : fxR G nL x Q w pc ls (.ref a :: st) := by
  obtain ⟨p, e, R, s, m, args, below, meth, c, t0, u0⟩ := x
  obtain ⟨hx, hb, hml, hown, hts, hV, C2⟩ := C
  intro H locs sl cells slots h1 h2 h3 h4 h5
  obtain ⟨-, r, hr, cell, q1, q2, q3, q4⟩ := h1.obj ha hci
  cases hr.symm.trans hc
  obtain ⟨hS, hfc, kC, hkC, hkind⟩ := hV.1.1 ci _ hc
  obtain ⟨cf, kf, fi, f, hi, hsl⟩ := hS k0 hk
  exact va_Wgetf hx hb hown (hts _ hl) (hs.use hts _ hi) (u_facts hfc hkC (u_lays hts hws hk) hi).1 q1 (by rw [q3]; exact fun h => by cases h) (v := v) (by rw [hsl, q4 k0 hk]; exact congrArg some hv) rfl rfl hd (k H locs sl cells slots h1 h2 h3 h4 h5)
theorem fx_locs {G : fxG} {locs : List Loc} {a i : Nat} (h : ∀ q ∈ locs, fxb G ≤ q.base) (ha : fxb G ≤ a) : ∀ q ∈ locs ++ [⟨a, i⟩], fxb G ≤ q.base := by
  intro q hq
  rcases List.mem_append.mp hq with h1 | h1
  · exact h q h1
  · rw [List.mem_singleton.mp h1]; exact ha
theorem r_put (C : fxC G d cc nL own nm ret hh x) {Cn ref : String} {T : u_T} {N ci idx k0 a n : Nat} {ty : FieldType} {v : Value} (hd : decode cc pc = .ok (.putfield idx, 3)) (hc : fxCl[ci]? = some (Cn, T, N)) (hci : ci < 100) (hws : ∀ w ∈ u_ws Cn T N, w ∈ fxTW) (tys : Nat → FieldType) (hty : ∀ k, k < N → parseFieldDescriptor (T k).2.2.1 = some (tys k)) (hnm : ∀ a, a < N → ∀ b, b < N → a ≠ b → (T a).2.1 ≠ (T b).2.1) (hk : k0 < N) (hl : Cond.fieldLink own idx ref (T k0).2.1 (T k0).2.2.1 ∈ fxTW) (hs : fxSame ref (T k0).1 (T k0).2.1 (T k0).2.2.1) (hfin : (T k0).2.2.2 = false)
    (hpd : parseFieldDescriptor (T k0).2.2.1 = some ty) (hn : narrow ty v = v) (hfit : fits ty v = true) (ha : fxk w a = some (ci, n)) (k : fxR G nL x Q (fx_put w (64 * ci + k0) a v) (pc + 3) ls st) : fxR G nL x Q w pc ls (v :: .ref a :: st) := by
  obtain ⟨p, e, R, s, m, args, below, meth, c, t0, u0⟩ := x
  obtain ⟨hx, hb, hml, hown, hts, hV, C2⟩ := C
  intro H locs sl cells slots h1 h2 h3 h4 h5
  have hap := va_apart (own := own) hts hws tys hty hnm hV.1 hc
  obtain ⟨hba, r, hr, cell, q1, q2, q3, q4⟩ := h1.obj ha hci
  cases hr.symm.trans hc
  obtain ⟨hS, hfc, kC, hkC, hkind⟩ := hV.1.1 ci _ hc
  obtain ⟨cf, kf, fi, f, hi, hsl⟩ := hS k0 hk
  have hlay := hts _ (hws _ (u_in_lay hk))
  unfold u_lay at hlay
  rw [if_neg (by rw [hfin]; decide)] at hlay
  have hst := (u_facts hfc hkC (u_lays hts hws hk) hi).1
  have h6 := u_store hfc hkC hkind hlay hi hpd hn hfit
  refine W.putK hx hb (f := f) ⟨hown, hts _ hl, ⟨_, _, _, hs.use hts _ hi⟩, hst⟩ (by rw [q2]; exact h6) q1 q3 (by rw [hsl]; exact k2_hasslot (q4 k0 hk)) rfl rfl hd fun H' e1 e2 e3 => ?_
  rw [hsl] at e1 ⊢
  exact k H' _ sl cells slots (h1.put ha hci e2 e3 fun r' hr' => by cases hr'.symm.trans hc; exact ⟨_, e1, q2, q3, t_set q4 hap hk v⟩) (fx_locs h2 hba) h3 h4 h5
theorem r_putN (C : fxC G d cc nL own nm ret hh x) {Cn ref host : String} {T : u_T} {N ci idx k0 a n : Nat} {ty : FieldType} {v : Value} (hd : decode cc pc = .ok (.putfield idx, 3)) (hc : fxCl[ci]? = some (Cn, T, N)) (hci : ci < 100) (hws : ∀ w ∈ u_ws Cn T N, w ∈ fxTW) (tys : Nat → FieldType) (hty : ∀ k, k < N → parseFieldDescriptor (T k).2.2.1 = some (tys k)) (hnm : ∀ a, a < N → ∀ b, b < N → a ≠ b → (T a).2.1 ≠ (T b).2.1) (hk : k0 < N) (hl : Cond.fieldLinkNest own idx ref (T k0).2.1 (T k0).2.2.1 host ∈ fxTW) (hs : fxSame ref (T k0).1 (T k0).2.1 (T k0).2.2.1) (hfin : (T k0).2.2.2 = false)
    (hpd : parseFieldDescriptor (T k0).2.2.1 = some ty) (hn : narrow ty v = v) (hfit : fits ty v = true) (ha : fxk w a = some (ci, n)) (k : fxR G nL x Q (fx_put w (64 * ci + k0) a v) (pc + 3) ls st) : fxR G nL x Q w pc ls (v :: .ref a :: st) := by
  obtain ⟨p, e, R, s, m, args, below, meth, c, t0, u0⟩ := x
  obtain ⟨hx, hb, hml, hown, hts, hV, C2⟩ := C
  intro H locs sl cells slots h1 h2 h3 h4 h5
  have hap := va_apart (own := own) hts hws tys hty hnm hV.1 hc
  obtain ⟨hba, r, hr, cell, q1, q2, q3, q4⟩ := h1.obj ha hci
  cases hr.symm.trans hc
  obtain ⟨hS, hfc, kC, hkC, hkind⟩ := hV.1.1 ci _ hc
  obtain ⟨cf, kf, fi, f, hi, hsl⟩ := hS k0 hk
  have hlay := hts _ (hws _ (u_in_lay hk))
  unfold u_lay at hlay
  rw [if_neg (by rw [hfin]; decide)] at hlay
  have hst := (u_facts hfc hkC (u_lays hts hws hk) hi).1
  have h6 := u_store hfc hkC hkind hlay hi hpd hn hfit
  refine va_WputK hx hb (f := f) hown (hts _ hl) (hs.use hts _ hi) hst (by rw [q2]; exact h6) q1 q3 (by rw [hsl]; exact k2_hasslot (q4 k0 hk)) rfl rfl hd fun H' e1 e2 e3 => ?_
  rw [hsl] at e1 ⊢
  exact k H' _ sl cells slots (h1.put ha hci e2 e3 fun r' hr' => by cases hr'.symm.trans hc; exact ⟨_, e1, q2, q3, t_set q4 hap hk v⟩) (fx_locs h2 hba) h3 h4 h5
theorem r_putF (C : fxC G d cc nL own "<init>" ret hh x) {Cn ref : String} {T : u_T} {N ci idx k0 a n : Nat} {ty : FieldType} {v : Value} (hd : decode cc pc = .ok (.putfield idx, 3)) (hc : fxCl[ci]? = some (Cn, T, N)) (hci : ci < 100) (hws : ∀ w ∈ u_ws Cn T N, w ∈ fxTW) (tys : Nat → FieldType) (hty : ∀ k, k < N → parseFieldDescriptor (T k).2.2.1 = some (tys k)) (hnm : ∀ a, a < N → ∀ b, b < N → a ≠ b → (T a).2.1 ≠ (T b).2.1) (hk : k0 < N) (hl : Cond.fieldLink own idx ref (T k0).2.1 (T k0).2.2.1 ∈ fxTW) (hs : fxSame ref (T k0).1 (T k0).2.1 (T k0).2.2.1) (hfin : (T k0).2.2.2 = true) (hdecl : (T k0).1 = own)
    (hpd : parseFieldDescriptor (T k0).2.2.1 = some ty) (hn : narrow ty v = v) (hfit : fits ty v = true) (ha : fxk w a = some (ci, n)) (k : fxR G nL x Q (fx_put w (64 * ci + k0) a v) (pc + 3) ls st) : fxR G nL x Q w pc ls (v :: .ref a :: st) := by
  obtain ⟨p, e, R, s, m, args, below, meth, c, t0, u0⟩ := x
  obtain ⟨hx, hb, hml, hown, hts, hV, hrt, hlk, hnmn, C2⟩ := C
  intro H locs sl cells slots h1 h2 h3 h4 h5
  have hap := va_apart (own := own) hts hws tys hty hnm hV.1 hc
  obtain ⟨hba, r, hr, cell, q1, q2, q3, q4⟩ := h1.obj ha hci
  cases hr.symm.trans hc
  obtain ⟨hS, hfc, kC, hkC, hkind⟩ := hV.1.1 ci _ hc
  obtain ⟨cf, kf, fi, f, hi, hsl⟩ := hS k0 hk
  have hlay := hts _ (hws _ (u_in_lay hk))
  unfold u_lay at hlay
  rw [if_pos hfin] at hlay
  have hst := (u_facts hfc hkC (u_lays hts hws hk) hi).1
  have hcf : m.cls = cf := by
    obtain ⟨_, _, c', _, _, _, -, -, hf', -, -, -, hown2, -⟩ := Cond.laysFinal_spec hlay
    have e1 : c' = cf := by have := hi.symm.trans hf'; simp at this; exact this.1.symm
    rw [hdecl] at hown2
    rw [← e1]; exact Option.some.inj (hown.symm.trans hown2)
  have h6 := u_fits hfc hkC hkind (Or.inr hlay) hi hpd hn hfit
  refine W.putFinK hx hb hown (hts _ hl) (hs.use hts _ hi) hst hcf hnmn (by rw [q2]; exact h6) q1 q3 (by rw [hsl]; exact k2_hasslot (q4 k0 hk)) rfl rfl hd fun H' e1 e2 e3 => ?_
  rw [hsl] at e1 ⊢
  exact k H' _ sl cells slots (h1.put ha hci e2 e3 fun r' hr' => by cases hr'.symm.trans hc; exact ⟨_, e1, q2, q3, t_set q4 hap hk v⟩) (fx_locs h2 hba) h3 h4 h5
/-- a new object: its address is fxt w -/
theorem r_new (C : fxC G d cc nL own nm ret hh x) {Cn : String} {T : u_T} {N ci idx sz : Nat} {z : Nat → Value} (hd : decode cc pc = .ok (.new idx, 3)) (hc : fxCl[ci]? = some (Cn, T, N)) (hci : ci < 100) (hws : ∀ w ∈ u_ws Cn T N, w ∈ fxTW) (tys : Nat → FieldType) (hty : ∀ k, k < N → parseFieldDescriptor (T k).2.2.1 = some (tys k)) (hl : Cond.classLink own idx Cn ∈ fxTW) (hi : Cond.instantiable Cn sz ∈ fxTW) (hini : Cond.initialized Cn ∈ fxTW) (hz : ∀ j, j < N → defaultValue (tys j) = z j)
    (h9 : fxt w + 1 ≤ fxmt G) (h8 : fxu w + sz ≤ fxmu G) (k : fxR G nL x Q (fx_new w ci sz z) (pc + 3) ls (.ref (fxt w) :: st)) : fxR G nL x Q w pc ls st := by
  obtain ⟨p, e, R, s, m, args, below, meth, c, t0, u0⟩ := x
  obtain ⟨hx, hb, hml, hown, hts, hV, hrt, hlk, hnmn, hsz, hRc, hRs, C2⟩ := C
  intro H locs sl cells slots h1 h2 h3 h4 h5
  have h4' : t0 + cells = fxt w := h4
  have h5' : u0 + slots = fxu w := h5
  have hKn := hV.1.1 ci _ hc
  refine W.newcK hx hb hown (hts _ hl) (hts _ hi) (hts _ hini) rfl hd (by omega) (by omega) hKn.2.1 h1.1 fun H1 kC hkC e1 z1 o1 => ?_
  exact k H1 locs sl (cells + 1) (slots + sz) (h1.new hci z1 (fun q hq => o1 q hq) h9 h8 ⟨_, hc, (u_born tys hts hws hKn hkC e1 hty).to hz⟩) h2 h3 (by show t0 + (cells + 1) = fxt w + 1; omega) (by show u0 + (slots + sz) = fxu w + sz; omega)
/-- arrays: a place, the length -/
theorem r_alen (C : fxC G d cc nL own nm ret hh x) {a t n : Nat} {v : Int32} (hd : decode cc pc = .ok (.arraylength, 1)) (ht : t < 100) (ha : fxk w a = some (100 + t, n) ∨ fxk w a = some (200 + t, n)) (hv : Int32.ofNat n = v) (k : fxR G nL x Q w (pc + 1) ls (.int v :: st)) : fxR G nL x Q w pc ls (.ref a :: st) := by
  obtain ⟨p, e, R, s, m, args, below, meth, c, t0, u0⟩ := x
  obtain ⟨hx, hb, hml, hown, hts, hV, C2⟩ := C
  intro H locs sl cells slots h1 h2 h3 h4 h5
  obtain ⟨ty, hty, q1⟩ := h1.rarr ht ha
  exact W.alen (n := v) hx hb q1 ((hV.1.2 t _ (fxT_at hty)).1 n _) (by rw [arrV_size]; exact hv) rfl rfl hd (k H locs sl cells slots h1 h2 h3 h4 h5)

theorem r_iaload (C : fxC G d cc nL own nm ret hh x) {a t n : Nat} {i : Int32} {v : Value} (hd : decode cc pc = .ok (.iaload, 1)) (ht : t < 100) (hty : fxAr[t]? = some .int) (ha : fxk w a = some (100 + t, n) ∨ fxk w a = some (200 + t, n)) (hi : vp_in i n) (hv : fxe w t a i.toNatClampNeg = v) (k : fxR G nL x Q w (pc + 1) ls (v :: st)) : fxR G nL x Q w pc ls (.int i :: .ref a :: st) := by
  obtain ⟨p, e, R, s, m, args, below, meth, c, t0, u0⟩ := x
  obtain ⟨hx, hb, hml, hown, hts, hV, C2⟩ := C
  intro H locs sl cells slots h1 h2 h3 h4 h5
  obtain ⟨ty, hty', q1⟩ := h1.rarr ht ha
  cases hty'.symm.trans hty
  have hlt : i.toNatClampNeg < n := Nat.not_le.mp fun q => hi (Or.inr q)
  exact W.iald (v := v) hx hb q1 ((hV.1.2 t _ (fxT_at hty)).1 n _) (fun q => by cases q) (by rw [arrV_size]; exact hi) (by rw [arrV_read _ _ hlt]; exact congrArg some hv) rfl rfl hd (k H locs sl cells slots h1 h2 h3 h4 h5)
theorem r_laload (C : fxC G d cc nL own nm ret hh x) {a t n : Nat} {i : Int32} {v : Value} (hd : decode cc pc = .ok (.laload, 1)) (ht : t < 100) (hty : fxAr[t]? = some .long) (ha : fxk w a = some (100 + t, n) ∨ fxk w a = some (200 + t, n)) (hi : vp_in i n) (hv : fxe w t a i.toNatClampNeg = v) (k : fxR G nL x Q w (pc + 1) ls (v :: st)) : fxR G nL x Q w pc ls (.int i :: .ref a :: st) := by
  obtain ⟨p, e, R, s, m, args, below, meth, c, t0, u0⟩ := x
  obtain ⟨hx, hb, hml, hown, hts, hV, C2⟩ := C
  intro H locs sl cells slots h1 h2 h3 h4 h5
  obtain ⟨ty, hty', q1⟩ := h1.rarr ht ha
  cases hty'.symm.trans hty
  have hlt : i.toNatClampNeg < n := Nat.not_le.mp fun q => hi (Or.inr q)
  exact W.lald (v := v) hx hb q1 ((hV.1.2 t _ (fxT_at hty)).1 n _) (fun q => by cases q) (by rw [arrV_size]; exact hi) (by rw [arrV_read _ _ hlt]; exact congrArg some hv) rfl rfl hd (k H locs sl cells slots h1 h2 h3 h4 h5)
theorem r_baload (C : fxC G d cc nL own nm ret hh x) {a t n : Nat} {i : Int32} {v : Value} (hd : decode cc pc = .ok (.baload, 1)) (ht : t < 100) (hty : fxAr[t]? = some .byte) (ha : fxk w a = some (100 + t, n) ∨ fxk w a = some (200 + t, n)) (hi : vp_in i n) (hv : fxe w t a i.toNatClampNeg = v) (k : fxR G nL x Q w (pc + 1) ls (v :: st)) : fxR G nL x Q w pc ls (.int i :: .ref a :: st) := by
  obtain ⟨p, e, R, s, m, args, below, meth, c, t0, u0⟩ := x
  obtain ⟨hx, hb, hml, hown, hts, hV, C2⟩ := C
  intro H locs sl cells slots h1 h2 h3 h4 h5
  obtain ⟨ty, hty', q1⟩ := h1.rarr ht ha
  cases hty'.symm.trans hty
  have hlt : i.toNatClampNeg < n := Nat.not_le.mp fun q => hi (Or.inr q)
  exact W.bald (v := v) hx hb q1 ((hV.1.2 t _ (fxT_at hty)).1 n _) (fun q => by cases q) (by rw [arrV_size]; exact hi) (by rw [arrV_read _ _ hlt]; exact congrArg some hv) rfl rfl hd (k H locs sl cells slots h1 h2 h3 h4 h5)
theorem r_saload (C : fxC G d cc nL own nm ret hh x) {a t n : Nat} {i : Int32} {v : Value} (hd : decode cc pc = .ok (.saload, 1)) (ht : t < 100) (hty : fxAr[t]? = some .short) (ha : fxk w a = some (100 + t, n) ∨ fxk w a = some (200 + t, n)) (hi : vp_in i n) (hv : fxe w t a i.toNatClampNeg = v) (k : fxR G nL x Q w (pc + 1) ls (v :: st)) : fxR G nL x Q w pc ls (.int i :: .ref a :: st) := by
  obtain ⟨p, e, R, s, m, args, below, meth, c, t0, u0⟩ := x
  obtain ⟨hx, hb, hml, hown, hts, hV, C2⟩ := C
  intro H locs sl cells slots h1 h2 h3 h4 h5
  obtain ⟨ty, hty', q1⟩ := h1.rarr ht ha
  cases hty'.symm.trans hty
  have hlt : i.toNatClampNeg < n := Nat.not_le.mp fun q => hi (Or.inr q)
  exact W.sald (v := v) hx hb q1 ((hV.1.2 t _ (fxT_at hty)).1 n _) (fun q => by cases q) (by rw [arrV_size]; exact hi) (by rw [arrV_read _ _ hlt]; exact congrArg some hv) rfl rfl hd (k H locs sl cells slots h1 h2 h3 h4 h5)
theorem r_aaload (C : fxC G d cc nL own nm ret hh x) {a t n : Nat} {i : Int32} {v : Value} {ty : FieldType} (hd : decode cc pc = .ok (.aaload, 1)) (ht : t < 100) (hty : fxAr[t]? = some ty) (href : ty.isReference = true) (ha : fxk w a = some (100 + t, n) ∨ fxk w a = some (200 + t, n)) (hi : vp_in i n) (hv : fxe w t a i.toNatClampNeg = v) (k : fxR G nL x Q w (pc + 1) ls (v :: st)) : fxR G nL x Q w pc ls (.int i :: .ref a :: st) := by
  obtain ⟨p, e, R, s, m, args, below, meth, c, t0, u0⟩ := x
  obtain ⟨hx, hb, hml, hown, hts, hV, C2⟩ := C
  intro H locs sl cells slots h1 h2 h3 h4 h5
  obtain ⟨ty', hty', q1⟩ := h1.rarr ht ha
  cases hty'.symm.trans hty
  have hlt : i.toNatClampNeg < n := Nat.not_le.mp fun q => hi (Or.inr q)
  exact W.aald (v := v) (ty := ty) hx hb q1 ((hV.1.2 t _ (fxT_at hty)).1 n _) href (fun q => by cases q) (by rw [arrV_size]; exact hi) (by rw [arrV_read _ _ hlt]; exact congrArg some hv) rfl rfl hd (k H locs sl cells slots h1 h2 h3 h4 h5)
theorem r_iastore (C : fxC G d cc nL own nm ret hh x) {a t n : Nat} {i : Int32} {v : Int32} (hd : decode cc pc = .ok (.iastore, 1)) (ht : t < 100) (hty : fxAr[t]? = some .int) (ha : fxk w a = some (100 + t, n)) (hi : vp_in i n) (k : fxR G nL x Q (fx_ast w t a i.toNatClampNeg (.int v)) (pc + 1) ls st) : fxR G nL x Q w pc ls (.int v :: .int i :: .ref a :: st) := by
  obtain ⟨p, e, R, s, m, args, below, meth, c, t0, u0⟩ := x
  obtain ⟨hx, hb, hml, hown, hts, hV, C2⟩ := C
  intro H locs sl cells slots h1 h2 h3 h4 h5
  obtain ⟨hba, ty', hty', q1⟩ := h1.arr ht ha
  cases hty'.symm.trans hty
  refine W.iast hx hb q1 ((hV.1.2 t _ (fxT_at hty)).1 n _) (fun q => by cases q) (by rw [arrV_size]; exact hi) rfl rfl hd fun H1 e1 z oq => ?_
  exact k H1 _ sl cells slots (h1.ast ht ha z oq (by rw [e1, arrV_store])) (fx_locs h2 hba) h3 h4 h5
theorem r_lastore (C : fxC G d cc nL own nm ret hh x) {a t n : Nat} {i : Int32} {v : Int64} (hd : decode cc pc = .ok (.lastore, 1)) (ht : t < 100) (hty : fxAr[t]? = some .long) (ha : fxk w a = some (100 + t, n)) (hi : vp_in i n) (k : fxR G nL x Q (fx_ast w t a i.toNatClampNeg (.long v)) (pc + 1) ls st) : fxR G nL x Q w pc ls (.long v :: .int i :: .ref a :: st) := by
  obtain ⟨p, e, R, s, m, args, below, meth, c, t0, u0⟩ := x
  obtain ⟨hx, hb, hml, hown, hts, hV, C2⟩ := C
  intro H locs sl cells slots h1 h2 h3 h4 h5
  obtain ⟨hba, ty', hty', q1⟩ := h1.arr ht ha
  cases hty'.symm.trans hty
  refine W.last hx hb q1 ((hV.1.2 t _ (fxT_at hty)).1 n _) (fun q => by cases q) (by rw [arrV_size]; exact hi) rfl rfl hd fun H1 e1 z oq => ?_
  exact k H1 _ sl cells slots (h1.ast ht ha z oq (by rw [e1, arrV_store])) (fx_locs h2 hba) h3 h4 h5
/-- a reference into an array: an object of the class ci, castable to the component -/
theorem r_aastore (C : fxC G d cc nL own nm ret hh x) {a b t n n' ci : Nat} {i : Int32} {r : vw_C} {E : String} (hd : decode cc pc = .ok (.aastore, 1)) (ht : t < 100) (hty : fxAr[t]? = some (.object E)) (ha : fxk w a = some (100 + t, n)) (hb9 : fxk w b = some (ci, n')) (hci : ci < 100) (hc : fxCl[ci]? = some r) (hca : r.1 = E ∨ Cond.castable r.1 E ∈ fxTW) (hi : vp_in i n) (k : fxR G nL x Q (fx_ast w t a i.toNatClampNeg (.ref b)) (pc + 1) ls st) : fxR G nL x Q w pc ls (.ref b :: .int i :: .ref a :: st) := by
  obtain ⟨p, e, R, s, m, args, below, meth, c, t0, u0⟩ := x
  obtain ⟨hx, hb, hml, hown, hts, hV, C2⟩ := C
  intro H locs sl cells slots h1 h2 h3 h4 h5
  obtain ⟨hba, ty', hty', q1⟩ := h1.arr ht ha
  cases hty'.symm.trans hty
  have hlt : i.toNatClampNeg < n := Nat.not_le.mp fun q => hi (Or.inr q)
  have h0 : ¬ i < 0 := fun q => hi (Or.inl q)
  obtain ⟨-, r', hr', cellV, g1, g2, g3, -⟩ := h1.obj hb9 hci
  have hcls := (hV.1.1 ci r hc).2
  obtain ⟨kA, comp, k1, k2, k3, -⟩ := (hV.1.2 t _ (fxT_at hty)).2
  obtain ⟨kE, hkE, -⟩ := Vm.findClass_spec k3
  obtain ⟨kC, hkC, -⟩ := hcls.2
  have hasg : s.vm.assignable ((fxD G).1 ci) comp = true := by
    rcases hca with h | h
    · subst h
      cases hcls.1.symm.trans k3
      exact va_assign hcls
    · obtain ⟨c0, t1, f1, f2, f3⟩ := Cond.castable_spec (hts _ h)
      cases hcls.1.symm.trans f1
      cases k3.symm.trans f2
      exact f3
  refine W.aast hx hb q1 (fun q h => by cases h) (fun h => by cases h) k1 k2 rfl hkE ⟨h0, by rw [arrV_size]; exact hlt⟩ g1 (fun q h => by rw [g3] at h; cases h) (by rw [g2]; exact hkC) (by rw [g2]; exact hasg) rfl rfl hd fun H1 e1 z oq => ?_
  exact k H1 _ sl cells slots (h1.ast ht ha z oq (by rw [e1, arrV_store])) (fx_locs h2 hba) h3 h4 h5
theorem r_aastoreN (C : fxC G d cc nL own nm ret hh x) {a t n : Nat} {i : Int32} {E : String} (hd : decode cc pc = .ok (.aastore, 1)) (ht : t < 100) (hty : fxAr[t]? = some (.object E)) (ha : fxk w a = some (100 + t, n)) (hi : vp_in i n) (k : fxR G nL x Q (fx_ast w t a i.toNatClampNeg .null) (pc + 1) ls st) : fxR G nL x Q w pc ls (.null :: .int i :: .ref a :: st) := by
  obtain ⟨p, e, R, s, m, args, below, meth, c, t0, u0⟩ := x
  obtain ⟨hx, hb, hml, hown, hts, hV, C2⟩ := C
  intro H locs sl cells slots h1 h2 h3 h4 h5
  obtain ⟨hba, ty', hty', q1⟩ := h1.arr ht ha
  cases hty'.symm.trans hty
  refine va_WaastN (C := E) hx hb q1 ((hV.1.2 t _ (fxT_at hty)).1 n _) (fun q => by cases q) (by rw [arrV_size]; exact hi) rfl rfl hd fun H1 e1 z oq => ?_
  exact k H1 _ sl cells slots (h1.ast ht ha z oq (by rw [e1, arrV_store])) (fx_locs h2 hba) h3 h4 h5
theorem r_newarr (C : fxC G d cc nL own nm ret hh x) {t N : Nat} {atype : ArrayType} {i : Int32} {z : Value} (hd : decode cc pc = .ok (.newarray atype, 2)) (ht : t < 100) (hty : fxAr[t]? = some (newarray.typeOf atype)) (hw : Cond.arrayClass (newarray.typeOf atype) ∈ fxTW) (hn : ¬ i < 0) (hN : i.toNatClampNeg = N) (hby : N * componentBytes (newarray.typeOf atype) ≤ 536870912) (hz : defaultValue (newarray.typeOf atype) = z) (h9 : fxt w + 1 ≤ fxmt G) (h8 : fxu w + N ≤ fxmu G) (k : fxR G nL x Q (fx_newa w t N z) (pc + 2) ls (.ref (fxt w) :: st)) : fxR G nL x Q w pc ls (.int i :: st) := by
  obtain ⟨p, e, R, s, m, args, below, meth, c, t0, u0⟩ := x
  obtain ⟨hx, hb, hml, hown, hts, hV, hrt, hlk, hnmn, hsz, hRc, hRs, C2⟩ := C
  intro H locs sl cells slots h1 h2 h3 h4 h5
  have h4' : t0 + cells = fxt w := h4
  have h5' : u0 + slots = fxu w := h5
  subst hz
  refine va_newaK hx hb (hts _ hw) rfl hd rfl hn hN hby (by omega) (by omega) h1.1 fun H1 cA e1 z1 o1 hAr hNm => ?_
  have hcA : cA = fxA G t := by
    have h7 := (hV.1.2 t _ (fxT_at hty)).2
    cases atype <;> exact Option.some.inj (hNm.symm.trans h7)
  subst hcA
  exact k H1 locs sl (cells + 1) (slots + N) (h1.newa ht hty z1 (fun q hq => o1 q hq) h9 h8 e1) h2 h3 (by show t0 + (cells + 1) = fxt w + 1; omega) (by show u0 + (slots + N) = fxu w + N; omega)
theorem r_anew (C : fxC G d cc nL own nm ret hh x) {t N idx : Nat} {i : Int32} {E : String} (hd : decode cc pc = .ok (.anewarray idx, 3)) (ht : t < 100) (hty : fxAr[t]? = some (.object E)) (hcl : Cond.classLink own idx E ∈ fxTW) (hov : Cond.arrayOver (.object E) ∈ fxTW) (hn : ¬ i < 0) (hN : i.toNatClampNeg = N) (hby : N * 4 ≤ 536870912) (h9 : fxt w + 1 ≤ fxmt G) (h8 : fxu w + N ≤ fxmu G) (k : fxR G nL x Q (fx_newa w t N .null) (pc + 3) ls (.ref (fxt w) :: st)) : fxR G nL x Q w pc ls (.int i :: st) := by
  obtain ⟨p, e, R, s, m, args, below, meth, c, t0, u0⟩ := x
  obtain ⟨hx, hb, hml, hown, hts, hV, hrt, hlk, hnmn, hsz, hRc, hRs, C2⟩ := C
  intro H locs sl cells slots h1 h2 h3 h4 h5
  have h4' : t0 + cells = fxt w := h4
  have h5' : u0 + slots = fxu w := h5
  subst hN
  refine W.anew hx hb hown (hts _ hcl) (hts _ hov) rfl hd rfl hn hby (by omega) (by omega) fun cA kA comp f1 f2 f3 f4 => ?_
  have hcA : cA = fxA G t := by
    obtain ⟨_, _, _, _, _, h7⟩ := (hV.1.2 t _ (fxT_at hty)).2
    exact Option.some.inj (f1.symm.trans h7)
  subst hcA
  have hHs : H.size = fxt w := h1.1
  refine cast ?_ (k (H.push ({ cls := fxA G t, slots := Array.replicate i.toNatClampNeg .null, vm := .none } : Cell)) locs sl (cells + 1) (slots + i.toNatClampNeg) (h1.newa ht hty (by rw [Array.size_push, hHs]) (fun q hq => by rw [Array.getElem?_push, if_neg (by omega)]) h9 h8 (by rw [← hHs, Array.getElem?_push_size, ← arrV_new])) h2 h3 (by show t0 + (cells + 1) = fxt w + 1; omega) (by show u0 + (slots + i.toNatClampNeg) = fxu w + i.toNatClampNeg; omega))
  rw [← hHs]
  rfl
theorem fx_mono {p : Program} {l : Launch} {e : Env} {R : Room} {s : State} {m : MethodId} {args : Array Value} {below : List Frame} {meth : Method} {c : Code} {H : Heap} {locs : List Loc} {cells slots : Nat} {Q Q' : State → Prop} {g : JFrame} (h : W p l e R s m args below meth c H locs cells slots Q g) (hq : ∀ t, Q t → Q' t) : W p l e R s m args below meth c H locs cells slots Q' g := fun T hT X => by
  obtain ⟨t, a, b⟩ := h T hT X
  exact ⟨t, a, hq t b⟩
theorem r_ireturn (C : fxC G d cc nL own nm ret hh x) {P : Outcome → fxW → Prop} {v : Int32} (hd : decode cc pc = .ok (.ireturn, 1)) (hr : ret = some .int) (k : P (.returned (some (.int v))) w) : fxR G nL x (fxQ G x P) w pc ls [.int v] := by
  obtain ⟨p, e, R, s, m, args, below, meth, c, t0, u0⟩ := x
  obtain ⟨hx, hb, hml, hown, hts, hV, hrt, hlk, C2⟩ := C
  intro H locs sl cells slots h1 h2 h3 h4 h5
  refine fx_mono (W.iret (v := v) hx hb (hrt.trans hr) (Qc := fun _ s' o t => o = .returned (some (.int v)) ∧ fxI G w t) (free := fun a => fxb G ≤ a) (fun t ht hW => ⟨rfl, by rw [fxI, ht]; exact ⟨h1, hV.moved hW⟩⟩) h2 hd hlk) ?_
  rintro t ⟨o, b1, b2, ⟨rfl, b3⟩, L, b4, b5⟩
  exact ⟨_, b1, b2, w, k, b3, L, cells, slots, b4.2.1, b4.2.2, b5, h4, h5⟩
theorem r_zreturn (C : fxC G d cc nL own nm ret hh x) {P : Outcome → fxW → Prop} {v : Int32} (hd : decode cc pc = .ok (.ireturn, 1)) {ty : FieldType} (hr : ret = some ty) (hn : narrow ty (.int v) = .int v) (k : P (.returned (some (.int v))) w) : fxR G nL x (fxQ G x P) w pc ls [.int v] := by
  obtain ⟨p, e, R, s, m, args, below, meth, c, t0, u0⟩ := x
  obtain ⟨hx, hb, hml, hown, hts, hV, hrt, hlk, C2⟩ := C
  intro H locs sl cells slots h1 h2 h3 h4 h5
  refine fx_mono (W.zret (v := v) hx hb (hrt.trans hr) hn (Qc := fun _ s' o t => o = .returned (some (.int v)) ∧ fxI G w t) (free := fun a => fxb G ≤ a) (fun t ht hW => ⟨rfl, by rw [fxI, ht]; exact ⟨h1, hV.moved hW⟩⟩) h2 hd hlk) ?_
  rintro t ⟨o, b1, b2, ⟨rfl, b3⟩, L, b4, b5⟩
  exact ⟨_, b1, b2, w, k, b3, L, cells, slots, b4.2.1, b4.2.2, b5, h4, h5⟩
theorem r_lreturn (C : fxC G d cc nL own nm ret hh x) {P : Outcome → fxW → Prop} {v : Int64} (hd : decode cc pc = .ok (.lreturn, 1)) (hr : ret = some .long) (k : P (.returned (some (.long v))) w) : fxR G nL x (fxQ G x P) w pc ls [.long v] := by
  obtain ⟨p, e, R, s, m, args, below, meth, c, t0, u0⟩ := x
  obtain ⟨hx, hb, hml, hown, hts, hV, hrt, hlk, C2⟩ := C
  intro H locs sl cells slots h1 h2 h3 h4 h5
  refine fx_mono (W.lret (v := v) hx hb (hrt.trans hr) (Qc := fun _ s' o t => o = .returned (some (.long v)) ∧ fxI G w t) (free := fun a => fxb G ≤ a) (fun t ht hW => ⟨rfl, by rw [fxI, ht]; exact ⟨h1, hV.moved hW⟩⟩) h2 hd hlk) ?_
  rintro t ⟨o, b1, b2, ⟨rfl, b3⟩, L, b4, b5⟩
  exact ⟨_, b1, b2, w, k, b3, L, cells, slots, b4.2.1, b4.2.2, b5, h4, h5⟩
theorem r_areturn (C : fxC G d cc nL own nm ret hh x) {P : Outcome → fxW → Prop} {v : Value} (hd : decode cc pc = .ok (.areturn, 1)) {ty : FieldType} (hr : ret = some ty) (hn : (∃ n, ty = .object n) ∨ ∃ t, ty = .array t) (hv : v = .null ∨ ∃ a, v = .ref a) (k : P (.returned (some v)) w) : fxR G nL x (fxQ G x P) w pc ls [v] := by
  obtain ⟨p, e, R, s, m, args, below, meth, c, t0, u0⟩ := x
  obtain ⟨hx, hb, hml, hown, hts, hV, hrt, hlk, C2⟩ := C
  intro H locs sl cells slots h1 h2 h3 h4 h5
  refine fx_mono (W.aret (v := v) hx hb (hrt.trans hr) hn hv (Qc := fun _ s' o t => o = .returned (some v) ∧ fxI G w t) (free := fun a => fxb G ≤ a) (fun t ht hW => ⟨rfl, by rw [fxI, ht]; exact ⟨h1, hV.moved hW⟩⟩) h2 hd hlk) ?_
  rintro t ⟨o, b1, b2, ⟨rfl, b3⟩, L, b4, b5⟩
  exact ⟨_, b1, b2, w, k, b3, L, cells, slots, b4.2.1, b4.2.2, b5, h4, h5⟩
theorem r_return (C : fxC G d cc nL own nm ret hh x) {P : Outcome → fxW → Prop} (hd : decode cc pc = .ok (.return_, 1)) (hr : ret = none) (k : P (.returned (none)) w) : fxR G nL x (fxQ G x P) w pc ls [] := by
  obtain ⟨p, e, R, s, m, args, below, meth, c, t0, u0⟩ := x
  obtain ⟨hx, hb, hml, hown, hts, hV, hrt, hlk, C2⟩ := C
  intro H locs sl cells slots h1 h2 h3 h4 h5
  refine fx_mono (W.vret hx hb (hrt.trans hr) (Qc := fun _ s' o t => o = .returned (none) ∧ fxI G w t) (free := fun a => fxb G ≤ a) (fun t ht hW => ⟨rfl, by rw [fxI, ht]; exact ⟨h1, hV.moved hW⟩⟩) h2 hd hlk) ?_
  rintro t ⟨o, b1, b2, ⟨rfl, b3⟩, L, b4, b5⟩
  exact ⟨_, b1, b2, w, k, b3, L, cells, slots, b4.2.1, b4.2.2, b5, h4, h5⟩
end FXH
end
section
/-! CONTRACTS: entry, calls, throws -/
/-- the code word of a method: with no handlers, or with them -/
def fxcode (y : MethodName) (cc : ByteArray) (nL : Nat) (ret : Option FieldType) (hh : List (Nat × Nat × Nat × Nat)) : Cond := match hh with
  | [] => .code y cc nL ret
  | q :: r => .codeWith y cc nL ret (q :: r)
theorem fxcode_spec {y : MethodName} {cc : ByteArray} {nL : Nat} {ret : Option FieldType} {hh : List (Nat × Nat × Nat × Nat)} {args : Array Value} {s : State} {m : MethodId} (hn : s.methodNamed? y = some m) (h : (fxcode y cc nL ret hh).before args s = true) :
    ∃ meth c, s.vm.method? m = some meth ∧ meth.code = some c ∧ c.code = cc ∧ c.maxLocals = nL ∧ meth.sig.returnType = ret ∧ meth.locks = false ∧ c.exceptionTable.toList.map (fun x => (x.startPc, x.endPc, x.handlerPc, x.catchType)) = hh ∧ parseMethodDescriptor y.desc = some meth.sig := by
  cases hh with
  | nil =>
    obtain ⟨meth, c, h1, h2, h3, h4, h5, h6, h7, h8⟩ := Cond.code_spec hn h
    refine ⟨meth, c, h1, h2, h3, h4, h5, h6, ?_, h8⟩
    have h0 : c.exceptionTable.size = 0 := by simpa [Array.isEmpty] using h7
    have h1 : c.exceptionTable.toList = [] := List.eq_nil_of_length_eq_zero (by simpa using h0)
    rw [h1]; rfl
  | cons q r =>
    obtain ⟨m', meth, c, h0, h1, h2, h3, h4, h5, h6, h7, h8⟩ := Cond.codeWith_spec h
    cases hn.symm.trans h0
    exact ⟨meth, c, h1, h2, h3, h4, h6, h7, h5, h8⟩
theorem fxV.calling {G : fxG} {T : State} (h : fxV G T) (g : JFrame) (mk : MethodId) (a : Array Value) : fxV G (T.calling g mk a) := h.moved (u := T) (U := T.calling g mk a) (State.WarmedH.refl T)
theorem fxcode_named {y : MethodName} {cc : ByteArray} {nL : Nat} {ret : Option FieldType} {hh : List (Nat × Nat × Nat × Nat)} {args : Array Value} {s : State} (h : (fxcode y cc nL ret hh).before args s = true) : ∃ m, s.methodNamed? y = some m := by
  cases hh with
  | nil => exact Cond.code_named h
  | cons q r =>
    obtain ⟨m', meth, c, h0, -⟩ := Cond.codeWith_spec h
    exact ⟨m', h0⟩
/-- ENTRY: a contract out of the walk of the body -/
theorem fxM.of {G : fxG} {d : Nat} {y : MethodName} {as : List Value} {w : fxW} {P : Outcome → fxW → Prop} (cc : ByteArray) (nL : Nat) (ret : Option FieldType) (hh : List (Nat × Nat × Nat × Nat)) (hy : plainFor y = true) (hcw : fxcode y cc nL ret hh ∈ fxTW) (hnl : (lg_sl as).length ≤ nL)
    (body : ∀ x : fxX, fxC G d cc nL y.cls y.name ret hh x → fxt0 x = fxt w → fxu0 x = fxu w → fxR G nL x (fxQ G x P) w 0 (lv_args 0 as) []) : fxM G d y as w P := by
  refine MetFree.of_bodySF (code := cc) (maxLocals := nL) (ret := ret) hy ?_ ?_
  · intro args s m h hn
    obtain ⟨meth, c, h1, h2, h3, h4, h5, h6, -, -⟩ := fxcode_spec hn (atoms_spec (ws := fxTW) h _ hcw)
    exact ⟨meth, c, h1, h2, h3, h4, h5, h6⟩
  · intro p e s m args below meth c s₁ B hml hP _
    obtain ⟨rfl, hH, hV⟩ := hP
    have hts := atoms_spec (ws := fxTW) B.pre
    have hown : s.vm.findClass y.cls = some m.cls := findClass_of_methodNamed B.named
    have X := Stand.of_body B
    obtain ⟨meth', c', h1, h2, h3, h4, h5, h6, h7, h8⟩ := fxcode_spec B.named (hts _ hcw)
    cases B.method.symm.trans h1
    cases X.code.symm.trans h2
    have hh0 : s₁.heap = s.heap := by rw [B.state]; rfl
    have hl := lv_entry as (n := nL) hnl
    have k := body (p, e, fxRm G d w, s, m, as.toArray, below, meth, c, fxt w, fxu w) ⟨B.exec, B.bytes, hml, hown, hts, hV, B.returns, B.notSynchronized, (name_of_methodNamed B.named B.method).1, hH.1, by show fxt w + (fxmt G - fxt w) = fxmt G; have := hH.2.2.2.1; omega, by show fxu w + (fxmu G - fxu w) = fxmu G; have := hH.2.2.2.2.1; omega, Nat.le_refl _, Nat.le_refl _, hH.2.2.1, h7, B.admits⟩ rfl rfl
    obtain ⟨t, a1, o, b1, b2, b3⟩ := k s.heap [] _ 0 0 hH (fun _ h => by cases h) hl rfl rfl s₁ hh0 X
    rw [← lg_entry_eq] at a1
    exact ⟨t, o, a1, b1, b2, b3⟩
/-- A CALL COMES BACK, by the callee's contract: it has returned, or thrown -/
theorem fx_back {G : fxG} {p : Program} {e : Env} {R : Room} {s : State} {m : MethodId} {args : Array Value} {below : List Frame} {meth : Method} {c : Code} {T : State} {locs : List Loc} {cells slots : Nat} (X : Stand p (fxl G) e R s m args below meth c T locs cells slots)
    {d maxL : Nat} {y : MethodName} {as : List Value} {w : fxW} {P : Outcome → fxW → Prop} (hM : fxM G d y as w P) (hH : fxH G w T.heap) (hV : fxV G T) (hts : ∀ q ∈ fxTW, q.before args s = true) {mk : MethodId} (hn : T.methodNamed? y = some mk)
    (hcode : ∃ (methY : Method) (cY : Code), T.vm.method? mk = some methY ∧ methY.code = some cY ∧ cY.maxLocals = maxL) (hini : Cond.initialized y.cls ∈ fxTW) (hfr : d + 1 ≤ R.frames) (hlo : 8 + (maxL + 11) + (38 * d + 20) ≤ R.locals) (hc : cells + (fxmt G - fxt w) ≤ R.cells) (hs : slots + (fxmu G - fxu w) ≤ R.slots)
    {g : JFrame} (hg : g.method = m) (hsize : g.locals.size = c.maxLocals) (hW : 2 * g.monitorRoom + (g.stack.map fun v => v.category).sum ≤ 8) {ig : Instr} {len : Nat} (hdg : decode c.code g.pc = .ok (ig, len)) :
    ∃ (o : Outcome) (w' : fxW) (T' : State) (L : List Loc) (k n : Nat), P o w' ∧ fxH G w' T'.heap ∧ Stand p (fxl G) e R s m args below meth c T' (locs ++ L) (cells + k) (slots + n) ∧ (∀ q ∈ L, fxb G ≤ q.base) ∧ fxt w + k = fxt w' ∧ fxu w + n = fxu w' ∧
      (∀ v, o = .returned v → Steps p.tables e below (doInvoke e (T.setTop g) [] mk as.toArray).1 (T'.setTop { g with pc := g.pc + len, stack := v.toList ++ g.stack })) ∧
      (∀ a, o = .threw a → Steps p.tables e below (doInvoke e (T.setTop g) [] mk as.toArray).1 ((T'.setTop g).pushFrame (.throwing a))) := by
  obtain ⟨methY, cY, hmY, hcY, hlY⟩ := hcode
  obtain ⟨kY, hkY, -⟩ := className_of_methodNamed hn
  have hwords : ∀ q ∈ fxTW, q.before as.toArray T = true := fun q hq => fxTW_at hq X.warmed (hts q hq)
  have hinitY : kY.init = .initialized := Cond.initialized_spec (findClass_of_methodNamed hn) hkY (hwords _ hini)
  have h : At T g.method c below := by rw [hg]; exact X.here
  have happ : (headSpec fxTW (fxRm G d w)).appliesLoose y e.platform (T.calling g mk as.toArray) = true :=
    Spec.appliesLoose_calling (g := g) h hdg hn hkY hinitY (X.room_calling (g := g) (R' := fxRm G d w) hsize hmY hcY hfr (by rw [hlY]; show _ + _ + (maxL + 11) + (38 * d + 20) ≤ R.locals; omega) hc hs) (atoms_intro hwords)
  obtain ⟨mid, hmid⟩ := h.above
  have hfr' : (T.setTop g).frames = (.java g :: mid) ++ below := by rw [State.frames_setTop' g h.top, hmid]; rfl
  obtain ⟨o, s₂, hsteps, -, hend, hq⟩ := Steps.callFree hM p X.admits X.cas X.clock (acts := []) hfr' happ ⟨rfl, hH, hV.calling g mk as.toArray⟩ trivial
  rw [State.frames_setTop' g h.top] at hend
  obtain ⟨w', hP, ⟨hH', -⟩, L, k, n, hW₂, hsm, hL, hk, hn'⟩ := hq
  have hsm' : (T.calling g mk as.toArray).sameButNew ({ s₂ with vm := (T.calling g mk as.toArray).vm } : State) L k n := hsm
  obtain ⟨e2, q2, q3, q4, q5, q6⟩ := hsm'
  have e3 : s₂ = ({ (T.calling g mk as.toArray).setFrames s₂.frames with heap := s₂.heap, slotsUsed := s₂.slotsUsed } : State).setVm s₂.vm := by
    have e4 : s₂ = ({ s₂ with vm := (T.calling g mk as.toArray).vm } : State).setVm s₂.vm := rfl
    rw [e2] at e4
    exact e4
  have hW' : T.WarmedH s₂.vm := hW₂
  obtain ⟨g₀, hg0⟩ := Option.isSome_iff_exists.mp h.top
  obtain ⟨r, hr⟩ := State.topJava?_eq_some.mp hg0
  have hr' : (({ T with heap := s₂.heap, slotsUsed := s₂.slotsUsed } : State).setVm s₂.vm).frames = .java g₀ :: r := hr
  have hsame : T.sameButNew ({ T with heap := s₂.heap, slotsUsed := s₂.slotsUsed } : State) L k n := by
    refine ⟨?_, q2, q3, q4, q5, q6⟩
    obtain ⟨t, ht, -⟩ := State.frames_cons hr
    show ({ T with heap := s₂.heap, slotsUsed := s₂.slotsUsed } : State) = { T.setFrames T.frames with heap := s₂.heap, slotsUsed := s₂.slotsUsed }
    rw [State.setFrames_self ht]
  refine ⟨o, w', ({ T with heap := s₂.heap, slotsUsed := s₂.slotsUsed } : State).setVm s₂.vm, L, k, n, hP, hH', ⟨X.admits, X.cas, X.clock, X.frames, X.room, X.hears, X.method, X.code, (X.here.setHeapUsed s₂.heap s₂.slotsUsed).setVm hW'.alike, X.tail, State.WarmedH.trans X.warmed hW', X.limits, X.bytes, X.same.trans (hsame.setVm s.vm)⟩, hL, hk, hn', ?_, ?_⟩
  · intro v hv
    subst hv
    obtain ⟨c₂, i₂, len₂, hc₂, hd₂, hf₂⟩ := hend
    have hcc : c₂ = c := by
      have h1 : s₂.code? g.method = T.code? g.method := by
        rw [State.code?_eq, State.code?_eq, hW'.alike.method?]
      exact Option.some.inj (hc₂.symm.trans (h1.trans h.code))
    subst hcc
    have hlen : len₂ = len := by rw [hdg] at hd₂; cases hd₂; rfl
    subst hlen
    have hs₂ : s₂ = (({ T with heap := s₂.heap, slotsUsed := s₂.slotsUsed } : State).setVm s₂.vm).setTop { g with pc := g.pc + len₂, stack := v.toList ++ g.stack } := by
      refine e3.trans ?_
      rw [hf₂, State.calling_eq h.top, State.setFrames_setFrames, State.setTop_of_frames _ hr', hr]
      rfl
    rw [← hs₂]
    exact hsteps
  · intro a ha
    subst ha
    have hf₂ : s₂.frames = .throwing a :: .java g :: T.frames.tail := hend
    have hs₂ : s₂ = ((({ T with heap := s₂.heap, slotsUsed := s₂.slotsUsed } : State).setVm s₂.vm).setTop g).pushFrame (.throwing a) := by
      refine e3.trans ?_
      rw [hf₂, State.calling_eq h.top, State.setFrames_setFrames, State.pushFrame, State.frames_setTop _ hr', State.setTop_of_frames _ hr', State.setFrames_setFrames, hr]
      rfl
    rw [← hs₂]
    exact hsteps
/-- THE WALK WHILE a IS THROWN, over the frame at pc -/
def fxWt (G : fxG) (x : fxX) (H : Heap) (locs : List Loc) (cells slots : Nat) (Q : State → Prop) (pc : Nat) (sl : Array Slot) (st : List Value) (a : Nat) : Prop :=
  match x with
  | (p, e, R, s, m, args, below, meth, c, _, _) => ∀ T : State, T.heap = H → Stand p (fxl G) e R s m args below meth c T locs cells slots → ∃ t, Steps p.tables e below ((T.setTop (F0 m pc sl st)).pushFrame (.throwing a)) t ∧ Q t
def fxRt (G : fxG) (nL : Nat) (x : fxX) (Q : State → Prop) (w : fxW) (pc : Nat) (ls : List (Nat × Value)) (st : List Value) (a : Nat) : Prop :=
  ∀ (H : Heap) (locs : List Loc) (sl : Array Slot) (cells slots : Nat), fxH G w H → (∀ q ∈ locs, fxb G ≤ q.base) → lv_has sl nL ls → fxt0 x + cells = fxt w → fxu0 x + slots = fxu w → fxWt G x H locs cells slots Q pc sl st a
section FXC
variable {G : fxG} {d nL : Nat} {cc : ByteArray} {own nm : String} {ret : Option FieldType} {hh : List (Nat × Nat × Nat × Nat)} {x : fxX} {Q : State → Prop} {w : fxW} {pc : Nat} {ls : List (Nat × Value)} {st : List Value}
theorem r_athrow (C : fxC G d cc nL own nm ret hh x) {a : Nat} (hd : decode cc pc = .ok (.athrow, 1)) (k : fxRt G nL x Q w pc ls st a) : fxR G nL x Q w pc ls (.ref a :: st) := by
  obtain ⟨p, e, R, s, m, args, below, meth, c, t0, u0⟩ := x
  obtain ⟨hx, hb, C2⟩ := C
  intro H locs sl cells slots h1 h2 h3 h4 h5 T hT X
  obtain ⟨t, a1, b1⟩ := k H locs sl cells slots h1 h2 h3 h4 h5 T hT X
  refine ⟨t, ?_, b1⟩
  subst hb
  jvm_step X.here [hx, hd, Op.athrow.wp_sem]
  exact a1
/-- out of the method -/
theorem rt_out (C : fxC G d cc nL own nm ret hh x) {P : Outcome → fxW → Prop} {a : Nat} (hh0 : hh.all (fun q => !(decide (q.1 ≤ pc) && decide (pc < q.2.1))) = true) (k : P (.threw a) w) : fxRt G nL x (fxQ G x P) w pc ls st a := by
  obtain ⟨p, e, R, s, m, args, below, meth, c, t0, u0⟩ := x
  obtain ⟨hx, hb, hml, hown, hts, hV, hrt, hlk, hnmn, hsz, hRc, hRs, hfr, hlo, hbt, hex, hadm⟩ := C
  intro H locs sl cells slots h1 h2 h3 h4 h5 T hT X
  obtain ⟨a1, a2, a3, a4, a5⟩ := X.leaveThrown a (g := F0 m pc sl st) rfl rfl rfl (fun y hy => by
    have h9 := List.all_eq_true.mp hh0 (y.startPc, y.endPc, y.handlerPc, y.catchType) (by rw [← hex]; exact List.mem_map.mpr ⟨y, hy, rfl⟩)
    simp only [Bool.not_eq_true'] at h9
    exact h9) hlk
  exact ⟨_, a1, _, a2, a3, w, k, ⟨by show fxH G w T.heap; rw [hT]; exact h1, hV.moved a4⟩, locs, cells, slots, a4, a5, h2, h4, h5⟩
theorem fx_room {t0 u0 cells slots : Nat} {R : Room} (h1 : t0 + R.cells = fxmt G) (h2 : u0 + R.slots = fxmu G) (h3 : t0 + cells = fxt w) (h4 : u0 + slots = fxu w) (h5 : fxt w ≤ fxmt G) (h6 : fxu w ≤ fxmu G) : cells + (fxmt G - fxt w) ≤ R.cells ∧ slots + (fxmu G - fxu w) ≤ R.slots := by
  constructor <;> omega
/-- behind any invoke that has been linked -/
theorem fx_call {p : Program} {e : Env} {R : Room} {s : State} {m : MethodId} {args : Array Value} {below : List Frame} {meth : Method} {c : Code} {t0 u0 : Nat} (C : fxC G d cc nL own nm ret hh (p, e, R, s, m, args, below, meth, c, t0, u0)) {d' maxL : Nat} {y : MethodName} {as : List Value} {P : Outcome → fxW → Prop} (hM : fxM G d' y as w P) (hdd : d' < d) (hml0 : maxL ≤ 19) (hini : Cond.initialized y.cls ∈ fxTW) {ig : Instr} {len : Nat} (hd : decode cc pc = .ok (ig, len)) {rest : List Value} (hst : (rest.map fun v => v.category).sum ≤ 8)
    (k1 : ∀ v w', P (.returned v) w' → fxR G nL (p, e, R, s, m, args, below, meth, c, t0, u0) Q w' (pc + len) ls (v.toList ++ rest)) (k2 : ∀ a w', P (.threw a) w' → fxRt G nL (p, e, R, s, m, args, below, meth, c, t0, u0) Q w' pc ls rest a)
    {H : Heap} {locs : List Loc} {sl : Array Slot} {cells slots : Nat} (h1 : fxH G w H) (h2 : ∀ q ∈ locs, fxb G ≤ q.base) (h3 : lv_has sl nL ls) (h4 : t0 + cells = fxt w) (h5 : u0 + slots = fxu w) {T : State} (hT : T.heap = H) (X : Stand p (fxl G) e R s m args below meth c T locs cells slots) {mk : MethodId} (hn : s.methodNamed? y = some mk) (hcode : ∃ (methY : Method) (cY : Code), s.vm.method? mk = some methY ∧ methY.code = some cY ∧ cY.maxLocals = maxL) :
    ∃ t, Steps p.tables e below (doInvoke e (T.setTop (F0 m pc sl rest)) [] mk as.toArray).1 t ∧ Q t := by
  obtain ⟨hx, hb, hml, hown, hts, hV, hrt, hlk, hnmn, hsz, hRc, hRs, hfr, hlo, hbt, hex, hadm⟩ := C
  subst hb
  subst hT
  obtain ⟨r1, r2⟩ := fx_room hRc hRs h4 h5 h1.2.2.2.1 h1.2.2.2.2.1
  obtain ⟨methY, cY, hm1, hm2, hm3⟩ := hcode
  obtain ⟨o, w', T', L, k, n, hP, hH', X', hL, hk, hn', s1, s2⟩ := fx_back X hM h1 (hV.moved X.warmed) hts (X.named hn) ⟨methY, cY, by rw [X.warmed.alike.method?]; exact hm1, hm2, hm3⟩ hini (by omega) (by omega) r1 r2 (g := F0 m pc sl rest) rfl (by rw [hml]; exact h3.1) (by show 2 * 0 + (rest.map fun v => v.category).sum ≤ 8; omega) hd
  have hL' : ∀ q ∈ locs ++ L, fxb G ≤ q.base := fun q hq => by
    rcases List.mem_append.mp hq with h | h
    · exact h2 q h
    · exact hL q h
  cases o with
  | returned v =>
    obtain ⟨t, a1, b1⟩ := k1 v w' hP T'.heap (locs ++ L) sl (cells + k) (slots + n) hH' hL' h3 (by show t0 + (cells + k) = _; omega) (by show u0 + (slots + n) = _; omega) T' rfl X'
    exact ⟨t, (s1 v rfl).trans a1, b1⟩
  | threw a =>
    obtain ⟨t, a1, b1⟩ := k2 a w' hP T'.heap (locs ++ L) sl (cells + k) (slots + n) hH' hL' h3 (by show t0 + (cells + k) = _; omega) (by show u0 + (slots + n) = _; omega) T' rfl X'
    exact ⟨t, (s2 a rfl).trans a1, b1⟩

theorem r_callV (C : fxC G d cc nL own nm ret hh x) {y : MethodName} {ccy : ByteArray} {rety : Option FieldType} {hhy : List (Nat × Nat × Nat × Nat)} {T0 : u_T} {N0 idx b ci n0 d' maxL : Nat} {Cn : String} {As rest : List Value} {P : Outcome → fxW → Prop} (hd : decode cc pc = .ok (.invokevirtual idx, 3)) (hl : Cond.methodLink own idx y ∈ fxTW) (hin : Cond.instanceMethod y ∈ fxTW) (hse : Cond.selects Cn y y ∈ fxTW) (hcd : fxcode y ccy maxL rety hhy ∈ fxTW) (hini : Cond.initialized y.cls ∈ fxTW) (hy : y.cls ≠ "java/lang/invoke/MethodHandle" ∧ y.cls ≠ "java/lang/invoke/VarHandle") (hnp : (parseMethodDescriptor y.desc).map (fun q => q.parameters.length) = some As.length) (hml0 : maxL ≤ 19) (hci : ci < 100) (hc : fxCl[ci]? = some (Cn, T0, N0)) (hb9 : fxk w b = some (ci, n0)) (hM : fxM G d' y (.ref b :: As) w P) (hdd : d' < d) (hst : (rest.map fun v => v.category).sum ≤ 8) (hstk : st = As.reverse ++ .ref b :: rest) (k1 : ∀ v w', P (.returned v) w' → fxR G nL x Q w' (pc + 3) ls (v.toList ++ rest)) (k2 : ∀ a w', P (.threw a) w' → fxRt G nL x Q w' pc ls rest a) : fxR G nL x Q w pc ls st := by
  obtain ⟨p, e, R, s, m, args, below, meth, c, t0, u0⟩ := x
  have C' := C
  obtain ⟨hx, hb, hml, hown, hts, hV, C2⟩ := C
  subst hstk
  have hlen : ∀ sig, parseMethodDescriptor y.desc = some sig → As.length = sig.parameters.length := fun sig h => by
    rw [h] at hnp; exact (Option.some.inj hnp).symm
  intro H locs sl cells slots h1 h2 h3 h4 h5 T hT X
  obtain ⟨-, r, hr, cell, q1, q2, q3, q4⟩ := h1.obj hb9 hci
  cases hr.symm.trans hc
  have hcls : s.vm.findClass Cn = some cell.cls := by rw [q2]; exact (hV.1.1 ci _ hc).2.1
  obtain ⟨mk, methM, hnamed, hmethM, hstM, habM⟩ := Cond.instanceMethod_spec (hts _ hin)
  obtain ⟨methM', cM, hmethM', hcM, -, hmL, -, -, -, hsigM⟩ := fxcode_spec hnamed (hts _ hcd)
  cases hmethM.symm.trans hmethM'
  obtain ⟨c2, r2, m2, g1, g2, g3, g4, kP, hkP, hkPi⟩ := Cond.selects_spec (hts _ hse)
  cases hcls.symm.trans g1
  cases (State.methodFound?_of_named hnamed hy).symm.trans g2
  cases hnamed.symm.trans g3
  have hselP : selectMethod e.platform s.vm cell.cls mk = .method mk := by rw [Launch.admits_selectMethod X.admits]; exact g4
  obtain ⟨vm₁, X₁, hstep₁⟩ := X.invokevirtual hx hown (hts _ hl) hnamed hmethM hstM hkP hkPi hy (a := b) (cell := cell) (by rw [hT]; exact q1)
    (fun z h => by rw [q3] at h; cases h) hselP hmethM habM hkP hkPi (g := F0 m pc sl (As.reverse ++ .ref b :: rest)) rfl (argsL := As) (rest := rest) (hlen _ hsigM) rfl (by rw [hb]; exact hd)
  obtain ⟨t, a1, b1⟩ := fx_call C' hM hdd hml0 hini hd hst k1 k2 h1 h2 h3 h4 h5 (T := T.setVm vm₁) hT X₁ hnamed ⟨methM, cM, hmethM, hcM, hmL⟩
  exact ⟨t, hstep₁ _ fun acts => by rw [doInvoke_state]; exact a1, b1⟩
theorem r_callS (C : fxC G d cc nL own nm ret hh x) {y : MethodName} {ccy : ByteArray} {rety : Option FieldType} {hhy : List (Nat × Nat × Nat × Nat)} {idx d' maxL : Nat} {As rest : List Value} {P : Outcome → fxW → Prop} (hd : decode cc pc = .ok (.invokestatic idx, 3)) (hl : Cond.methodLink own idx y ∈ fxTW) (hst0 : Cond.static y ∈ fxTW) (hcd : fxcode y ccy maxL rety hhy ∈ fxTW) (hini : Cond.initialized y.cls ∈ fxTW) (hy : y.cls ≠ "java/lang/invoke/MethodHandle" ∧ y.cls ≠ "java/lang/invoke/VarHandle") (hnp : (parseMethodDescriptor y.desc).map (fun q => q.parameters.length) = some As.length) (hml0 : maxL ≤ 19) (hM : fxM G d' y As w P) (hdd : d' < d) (hst : (rest.map fun v => v.category).sum ≤ 8) (hstk : st = As.reverse ++ rest) (k1 : ∀ v w', P (.returned v) w' → fxR G nL x Q w' (pc + 3) ls (v.toList ++ rest)) (k2 : ∀ a w', P (.threw a) w' → fxRt G nL x Q w' pc ls rest a) : fxR G nL x Q w pc ls st := by
  obtain ⟨p, e, R, s, m, args, below, meth, c, t0, u0⟩ := x
  have C' := C
  obtain ⟨hx, hb, hml, hown, hts, hV, C2⟩ := C
  subst hstk
  have hlen : ∀ sig, parseMethodDescriptor y.desc = some sig → As.length = sig.parameters.length := fun sig h => by
    rw [h] at hnp; exact (Option.some.inj hnp).symm
  intro H locs sl cells slots h1 h2 h3 h4 h5 T hT X
  obtain ⟨mk, hnamed⟩ := fxcode_named (hts _ hcd)
  obtain ⟨methM, cM, hmethM, hcM, -, hmL, -, -, -, hsigM⟩ := fxcode_spec hnamed (hts _ hcd)
  have hstatic : methM.isStatic = true := Cond.static_spec hnamed hmethM (hts _ hst0)
  obtain ⟨kP, hkP, -⟩ := className_of_methodNamed hnamed
  have hinitP : kP.init = .initialized := Cond.initialized_spec (findClass_of_methodNamed hnamed) hkP (hts _ hini)
  obtain ⟨vm₁, X₁, hstep₁⟩ := X.invokestatic hx hown (hts _ hl) hnamed hmethM hstatic hkP hinitP hy (g := F0 m pc sl (As.reverse ++ rest)) rfl (argsL := As) (rest := rest) (hlen _ hsigM) rfl (by rw [hb]; exact hd)
  obtain ⟨t, a1, b1⟩ := fx_call C' hM hdd hml0 hini hd hst k1 k2 h1 h2 h3 h4 h5 (T := T.setVm vm₁) hT X₁ hnamed ⟨methM, cM, hmethM, hcM, hmL⟩
  exact ⟨t, hstep₁ _ fun acts => by rw [doInvoke_state]; exact a1, b1⟩
theorem r_callI (C : fxC G d cc nL own nm ret hh x) {y : MethodName} {ccy : ByteArray} {idx b d' maxL : Nat} {As rest : List Value} {P : Outcome → fxW → Prop} (hd : decode cc pc = .ok (.invokespecial idx, 3)) (hl : Cond.methodLink own idx y ∈ fxTW) (hy1 : y.name = "<init>") (hin : Cond.instanceMethod y ∈ fxTW) (hcd : Cond.code y ccy maxL none ∈ fxTW) (hini : Cond.initialized y.cls ∈ fxTW) (hy : y.cls ≠ "java/lang/invoke/MethodHandle" ∧ y.cls ≠ "java/lang/invoke/VarHandle") (hnp : (parseMethodDescriptor y.desc).map (fun q => q.parameters.length) = some As.length) (hml0 : maxL ≤ 19) (hM : fxM G d' y (.ref b :: As) w P) (hdd : d' < d) (hst : (rest.map fun v => v.category).sum ≤ 8) (hstk : st = As.reverse ++ .ref b :: rest) (k1 : ∀ v w', P (.returned v) w' → fxR G nL x Q w' (pc + 3) ls (v.toList ++ rest)) (k2 : ∀ a w', P (.threw a) w' → fxRt G nL x Q w' pc ls rest a) : fxR G nL x Q w pc ls st := by
  obtain ⟨p, e, R, s, m, args, below, meth, c, t0, u0⟩ := x
  have C' := C
  obtain ⟨hx, hb, hml, hown, hts, hV, C2⟩ := C
  subst hstk
  have hlen : ∀ sig, parseMethodDescriptor y.desc = some sig → As.length = sig.parameters.length := fun sig h => by
    rw [h] at hnp; exact (Option.some.inj hnp).symm
  intro H locs sl cells slots h1 h2 h3 h4 h5 T hT X
  have hpl : e.platform.magicAccessors = ({} : Platform).magicAccessors := by rw [X.admits.platform]
  obtain ⟨mk, methM, cM, kP, vm₁, hnamed, hmethM, hcodeM, -, hlocalsM, -, hkP, -, hW₁, hstep₁⟩ := Steps.initColdArgs (e := e) X.here hx X.warmed hpl hown hy1 hy (hts _ hl) (hts _ hin) (hts _ hcd) (f := F0 m pc sl (As.reverse ++ .ref b :: rest)) rfl hlen rfl (by rw [hb]; exact hd)
  have X₁ := X.noted hW₁
  obtain ⟨t, a1, b1⟩ := fx_call C' hM hdd hml0 hini hd hst k1 k2 h1 h2 h3 h4 h5 (T := T.setVm vm₁) hT X₁ hnamed ⟨methM, cM, hmethM, hcodeM, hlocalsM⟩
  exact ⟨t, hstep₁ _ fun acts => by rw [doInvoke_state]; exact a1, b1⟩
theorem r_callVN (C : fxC G d cc nL own nm ret hh x) {y : MethodName} {ccy : ByteArray} {rety : Option FieldType} {hhy : List (Nat × Nat × Nat × Nat)} {host : String} {T0 : u_T} {N0 idx b ci n0 d' maxL : Nat} {Cn : String} {As rest : List Value} {P : Outcome → fxW → Prop} (hd : decode cc pc = .ok (.invokevirtual idx, 3)) (hl : Cond.methodLinkNest own idx y host ∈ fxTW) (hin : Cond.instanceMethod y ∈ fxTW) (hse : Cond.selects Cn y y ∈ fxTW) (hcd : fxcode y ccy maxL rety hhy ∈ fxTW) (hini : Cond.initialized y.cls ∈ fxTW) (hy : y.cls ≠ "java/lang/invoke/MethodHandle" ∧ y.cls ≠ "java/lang/invoke/VarHandle") (hnp : (parseMethodDescriptor y.desc).map (fun q => q.parameters.length) = some As.length) (hml0 : maxL ≤ 19) (hci : ci < 100) (hc : fxCl[ci]? = some (Cn, T0, N0)) (hb9 : fxk w b = some (ci, n0)) (hM : fxM G d' y (.ref b :: As) w P) (hdd : d' < d) (hst : (rest.map fun v => v.category).sum ≤ 8) (hstk : st = As.reverse ++ .ref b :: rest) (k1 : ∀ v w', P (.returned v) w' → fxR G nL x Q w' (pc + 3) ls (v.toList ++ rest)) (k2 : ∀ a w', P (.threw a) w' → fxRt G nL x Q w' pc ls rest a) : fxR G nL x Q w pc ls st := by
  obtain ⟨p, e, R, s, m, args, below, meth, c, t0, u0⟩ := x
  have C' := C
  obtain ⟨hx, hb, hml, hown, hts, hV, C2⟩ := C
  subst hstk
  have hlen : ∀ sig, parseMethodDescriptor y.desc = some sig → As.length = sig.parameters.length := fun sig h => by
    rw [h] at hnp; exact (Option.some.inj hnp).symm
  intro H locs sl cells slots h1 h2 h3 h4 h5 T hT X
  obtain ⟨-, r, hr, cell, q1, q2, q3, q4⟩ := h1.obj hb9 hci
  cases hr.symm.trans hc
  have hcls : s.vm.findClass Cn = some cell.cls := by rw [q2]; exact (hV.1.1 ci _ hc).2.1
  obtain ⟨mk, methM, hnamed, hmethM, hstM, habM⟩ := Cond.instanceMethod_spec (hts _ hin)
  obtain ⟨methM', cM, hmethM', hcM, -, hmL, -, -, -, hsigM⟩ := fxcode_spec hnamed (hts _ hcd)
  cases hmethM.symm.trans hmethM'
  obtain ⟨c2, r2, m2, g1, g2, g3, g4, kP, hkP, hkPi⟩ := Cond.selects_spec (hts _ hse)
  cases hcls.symm.trans g1
  cases (State.methodFound?_of_named hnamed hy).symm.trans g2
  cases hnamed.symm.trans g3
  have hselP : selectMethod e.platform s.vm cell.cls mk = .method mk := by rw [Launch.admits_selectMethod X.admits]; exact g4
  obtain ⟨vm₁, X₁, hstep₁⟩ := X.invokevirtualNest hx hown (hts _ hl) hnamed hmethM hstM hkP hkPi hy (a := b) (cell := cell) (by rw [hT]; exact q1)
    (fun z h => by rw [q3] at h; cases h) hselP hmethM habM hkP hkPi (g := F0 m pc sl (As.reverse ++ .ref b :: rest)) rfl (argsL := As) (rest := rest) (hlen _ hsigM) rfl (by rw [hb]; exact hd)
  obtain ⟨t, a1, b1⟩ := fx_call C' hM hdd hml0 hini hd hst k1 k2 h1 h2 h3 h4 h5 (T := T.setVm vm₁) hT X₁ hnamed ⟨methM, cM, hmethM, hcM, hmL⟩
  exact ⟨t, hstep₁ _ fun acts => by rw [doInvoke_state]; exact a1, b1⟩
theorem r_callSN (C : fxC G d cc nL own nm ret hh x) {y : MethodName} {ccy : ByteArray} {rety : Option FieldType} {hhy : List (Nat × Nat × Nat × Nat)} {host : String} {idx d' maxL : Nat} {As rest : List Value} {P : Outcome → fxW → Prop} (hd : decode cc pc = .ok (.invokestatic idx, 3)) (hl : Cond.methodLinkNest own idx y host ∈ fxTW) (hst0 : Cond.static y ∈ fxTW) (hcd : fxcode y ccy maxL rety hhy ∈ fxTW) (hini : Cond.initialized y.cls ∈ fxTW) (hy : y.cls ≠ "java/lang/invoke/MethodHandle" ∧ y.cls ≠ "java/lang/invoke/VarHandle") (hnp : (parseMethodDescriptor y.desc).map (fun q => q.parameters.length) = some As.length) (hml0 : maxL ≤ 19) (hM : fxM G d' y As w P) (hdd : d' < d) (hst : (rest.map fun v => v.category).sum ≤ 8) (hstk : st = As.reverse ++ rest) (k1 : ∀ v w', P (.returned v) w' → fxR G nL x Q w' (pc + 3) ls (v.toList ++ rest)) (k2 : ∀ a w', P (.threw a) w' → fxRt G nL x Q w' pc ls rest a) : fxR G nL x Q w pc ls st := by
  obtain ⟨p, e, R, s, m, args, below, meth, c, t0, u0⟩ := x
  have C' := C
  obtain ⟨hx, hb, hml, hown, hts, hV, C2⟩ := C
  subst hstk
  have hlen : ∀ sig, parseMethodDescriptor y.desc = some sig → As.length = sig.parameters.length := fun sig h => by
    rw [h] at hnp; exact (Option.some.inj hnp).symm
  intro H locs sl cells slots h1 h2 h3 h4 h5 T hT X
  obtain ⟨mk, hnamed⟩ := fxcode_named (hts _ hcd)
  obtain ⟨methM, cM, hmethM, hcM, -, hmL, -, -, -, hsigM⟩ := fxcode_spec hnamed (hts _ hcd)
  have hstatic : methM.isStatic = true := Cond.static_spec hnamed hmethM (hts _ hst0)
  obtain ⟨kP, hkP, -⟩ := className_of_methodNamed hnamed
  have hinitP : kP.init = .initialized := Cond.initialized_spec (findClass_of_methodNamed hnamed) hkP (hts _ hini)
  obtain ⟨vm₁, X₁, hstep₁⟩ := X.invokestaticNest hx hown (hts _ hl) hnamed hmethM hstatic hkP hinitP hy (g := F0 m pc sl (As.reverse ++ rest)) rfl (argsL := As) (rest := rest) (hlen _ hsigM) rfl (by rw [hb]; exact hd)
  obtain ⟨t, a1, b1⟩ := fx_call C' hM hdd hml0 hini hd hst k1 k2 h1 h2 h3 h4 h5 (T := T.setVm vm₁) hT X₁ hnamed ⟨methM, cM, hmethM, hcM, hmL⟩
  exact ⟨t, hstep₁ _ fun acts => by rw [doInvoke_state]; exact a1, b1⟩
theorem r_callIN (C : fxC G d cc nL own nm ret hh x) {y : MethodName} {ccy : ByteArray} {host : String} {idx b d' maxL : Nat} {As rest : List Value} {P : Outcome → fxW → Prop} (hd : decode cc pc = .ok (.invokespecial idx, 3)) (hl : Cond.methodLinkNest own idx y host ∈ fxTW) (hy1 : y.name = "<init>") (hin : Cond.instanceMethod y ∈ fxTW) (hcd : Cond.code y ccy maxL none ∈ fxTW) (hini : Cond.initialized y.cls ∈ fxTW) (hy : y.cls ≠ "java/lang/invoke/MethodHandle" ∧ y.cls ≠ "java/lang/invoke/VarHandle") (hnp : (parseMethodDescriptor y.desc).map (fun q => q.parameters.length) = some As.length) (hml0 : maxL ≤ 19) (hM : fxM G d' y (.ref b :: As) w P) (hdd : d' < d) (hst : (rest.map fun v => v.category).sum ≤ 8) (hstk : st = As.reverse ++ .ref b :: rest) (k1 : ∀ v w', P (.returned v) w' → fxR G nL x Q w' (pc + 3) ls (v.toList ++ rest)) (k2 : ∀ a w', P (.threw a) w' → fxRt G nL x Q w' pc ls rest a) : fxR G nL x Q w pc ls st := by
  obtain ⟨p, e, R, s, m, args, below, meth, c, t0, u0⟩ := x
  have C' := C
  obtain ⟨hx, hb, hml, hown, hts, hV, C2⟩ := C
  subst hstk
  have hlen : ∀ sig, parseMethodDescriptor y.desc = some sig → As.length = sig.parameters.length := fun sig h => by
    rw [h] at hnp; exact (Option.some.inj hnp).symm
  intro H locs sl cells slots h1 h2 h3 h4 h5 T hT X
  have hpl : e.platform.magicAccessors = ({} : Platform).magicAccessors := by rw [X.admits.platform]
  obtain ⟨mk, methM, cM, kP, vm₁, hnamed, hmethM, hcodeM, -, hlocalsM, -, hkP, -, hW₁, hstep₁⟩ := Steps.initColdArgsNest (e := e) X.here hx X.warmed hpl hown hy1 hy (hts _ hl) (hts _ hin) (hts _ hcd) (f := F0 m pc sl (As.reverse ++ .ref b :: rest)) rfl hlen rfl (by rw [hb]; exact hd)
  have X₁ := X.noted hW₁
  obtain ⟨t, a1, b1⟩ := fx_call C' hM hdd hml0 hini hd hst k1 k2 h1 h2 h3 h4 h5 (T := T.setVm vm₁) hT X₁ hnamed ⟨methM, cM, hmethM, hcodeM, hlocalsM⟩
  exact ⟨t, hstep₁ _ fun acts => by rw [doInvoke_state]; exact a1, b1⟩
theorem r_objInit (C : fxC G d cc nL own nm ret hh x) {idx b : Nat} (hd : decode cc pc = .ok (.invokespecial idx, 3)) (hl : Cond.methodLink own idx Lib.objectInit ∈ fxTW) (hin : Cond.instanceMethod Lib.objectInit ∈ fxTW) (hcd : Cond.code Lib.objectInit ⟨#[0xb1]⟩ 1 none ∈ fxTW) (h1 : 1 ≤ d) (hst : (st.map fun v => v.category).sum ≤ 8) (k : fxR G nL x Q w (pc + 3) ls st) : fxR G nL x Q w pc ls (.ref b :: st) := by
  obtain ⟨p, e, R, s, m, args, below, meth, c, t0, u0⟩ := x
  obtain ⟨hx, hb, hml, hown, hts, hV, hrt, hlk, hnmn, hsz, hRc, hRs, hfr, hlo, C2⟩ := C
  intro H locs sl cells slots h1' h2 h3 h4 h5
  exact W.objInit hx hb hown (hts _ hl) (hts _ hin) (hts _ hcd) rfl (by rw [hml]; exact h3.1) rfl hd (by omega) (by show 2 * 0 + (st.map fun v => v.category).sum + 12 ≤ R.locals; omega) (k H locs sl cells slots h1' h2 h3 h4 h5)
theorem r_ldc2 (C : fxC G d cc nL own nm ret hh x) {idx : Nat} {v : Int64} (hd : decode cc pc = .ok (.ldc2_w idx, 3)) (hl : Cond.constantLong own idx v ∈ fxTW) (k : fxR G nL x Q w (pc + 3) ls (.long v :: st)) : fxR G nL x Q w pc ls st := by
  obtain ⟨p, e, R, s, m, args, below, meth, c, t0, u0⟩ := x
  obtain ⟨hx, hb, hml, hown, hts, C2⟩ := C
  intro H locs sl cells slots h1 h2 h3 h4 h5
  exact lv_ldc2 hx hb hown (hts _ hl) hd (k H locs sl cells slots h1 h2 h3 h4 h5)
theorem r_ldc (C : fxC G d cc nL own nm ret hh x) {idx : Nat} {v : Int32} (hd : decode cc pc = .ok (.ldc idx, 2)) (hl : Cond.constant own idx v ∈ fxTW) (k : fxR G nL x Q w (pc + 2) ls (.int v :: st)) : fxR G nL x Q w pc ls st := by
  obtain ⟨p, e, R, s, m, args, below, meth, c, t0, u0⟩ := x
  obtain ⟨hx, hb, hml, hown, hts, C2⟩ := C
  intro H locs sl cells slots h1 h2 h3 h4 h5
  exact lv_ldc hx hb hown (hts _ hl) hd (k H locs sl cells slots h1 h2 h3 h4 h5)
/-- a contract's end may be weakened -/
theorem fxM.mono {y : MethodName} {as : List Value} {P P' : Outcome → fxW → Prop} (h : fxM G d y as w P) (hp : ∀ o w', P o w' → P' o w') : fxM G d y as w P' := by
  intro p e ha hc hk s m args below hf happ hP hK
  obtain ⟨n, o, a1, a2, a3, w', b1, b2⟩ := h p e ha hc hk s m args below hf happ hP hK
  exact ⟨n, o, a1, a2, a3, w', hp _ _ b1, b2⟩
end FXC
end
section
/-! INTS AS INTEGERS: zi e is the Java int of the Int e; within bounds compares are those of the integers -/
abbrev zi (e : Int) : Value := .int (Int32.ofInt e)
def zok (a : Int) : Prop := -2147483648 ≤ a ∧ a < 2147483648
theorem zok_toInt {a : Int} (h : zok a) : (Int32.ofInt a).toInt = a := by
  rw [Int32.toInt_ofInt, show Int32.size = 4294967296 from rfl]
  obtain ⟨h1, h2⟩ := h
  exact Int.bmod_eq_of_le (by omega) (by omega)
theorem zi_all (x : Int32) : x = Int32.ofInt x.toInt := by simp
theorem zok_all (x : Int32) : zok x.toInt := ⟨by have := Int32.le_toInt x; simpa using this, by have := Int32.toInt_lt x; simpa using this⟩
theorem z_add (a b : Int) : Int32.ofInt a + Int32.ofInt b = Int32.ofInt (a + b) := (Int32.ofInt_add a b).symm
theorem z_sub (a b : Int) : Int32.ofInt a - Int32.ofInt b = Int32.ofInt (a - b) := (Int32.ofInt_sub a b).symm
theorem z_mul (a b : Int) : Int32.ofInt a * Int32.ofInt b = Int32.ofInt (a * b) := (Int32.ofInt_mul a b).symm
theorem z_lt {a b : Int} (ha : zok a) (hb : zok b) : Int32.ofInt a < Int32.ofInt b ↔ a < b := by rw [Int32.lt_iff_toInt_lt, zok_toInt ha, zok_toInt hb]
theorem z_le {a b : Int} (ha : zok a) (hb : zok b) : Int32.ofInt a ≤ Int32.ofInt b ↔ a ≤ b := by rw [Int32.le_iff_toInt_le, zok_toInt ha, zok_toInt hb]
theorem z_eq {a b : Int} (ha : zok a) (hb : zok b) : Int32.ofInt a = Int32.ofInt b ↔ a = b := by
  constructor
  · intro h
    rw [← zok_toInt ha, ← zok_toInt hb, h]
  · intro h; rw [h]
theorem z_0 : (0 : Int32) = Int32.ofInt 0 := rfl
theorem z_nat (n : Nat) : Int32.ofNat n = Int32.ofInt (n : Int) := by
  apply Int32.toInt_inj.mp
  rw [Int32.toInt_ofNat', Int32.toInt_ofInt]
theorem z_in {j : Int} {k n : Nat} (hj : j = (k : Int)) (hk : k < n) (hn : n < 2147483648) : vp_in (Int32.ofInt j) n ∧ (Int32.ofInt j).toNatClampNeg = k := by
  subst hj
  rw [← z_nat]
  exact ⟨vp_in_nI hk hn, nI_clamp (by omega)⟩
theorem z_l {a : Int} (h : zok a) : (Int32.ofInt a).toInt64 = Int64.ofInt a := by
  apply Int64.toInt_inj.mp
  obtain ⟨h1, h2⟩ := h
  rw [Int32.toInt_toInt64, zok_toInt ⟨h1, h2⟩, Int64.toInt_ofInt, show Int64.size = 18446744073709551616 from rfl]
  exact (Int.bmod_eq_of_le (by omega) (by omega)).symm
section FXZ
variable {G : fxG} {d nL : Nat} {cc : ByteArray} {own nm : String} {ret : Option FieldType} {hh : List (Nat × Nat × Nat × Nat)} {x : fxX} {Q : State → Prop} {w : fxW} {pc : Nat} {ls : List (Nat × Value)} {st : List Value}

theorem zr_iadd (C : fxC G d cc nL own nm ret hh x) {a b : Int} (hd : decode cc pc = .ok (.iadd, 1)) (k : fxR G nL x Q w (pc + 1) ls (zi (a + b) :: st)) : fxR G nL x Q w pc ls (zi b :: zi a :: st) := r_iadd C hd (by rw [z_add]; exact k)
theorem zr_isub (C : fxC G d cc nL own nm ret hh x) {a b : Int} (hd : decode cc pc = .ok (.isub, 1)) (k : fxR G nL x Q w (pc + 1) ls (zi (a - b) :: st)) : fxR G nL x Q w pc ls (zi b :: zi a :: st) := r_isub C hd (by rw [z_sub]; exact k)
theorem zr_imul (C : fxC G d cc nL own nm ret hh x) {a b : Int} (hd : decode cc pc = .ok (.imul, 1)) (k : fxR G nL x Q w (pc + 1) ls (zi (a * b) :: st)) : fxR G nL x Q w pc ls (zi b :: zi a :: st) := r_imul C hd (by rw [z_mul]; exact k)
theorem zr_iinc (C : fxC G d cc nL own nm ret hh x) {i : Nat} {n y : Int} {ls' : List (Nat × Value)} (hd : decode cc pc = .ok (.iinc i n, 3)) (hy : fxL ls i = some (zi y)) (hn : i < nL) (hl : fxS1 i (zi (y + n)) ls = ls') (k : fxR G nL x Q w (pc + 3) ls' st) : fxR G nL x Q w pc ls st := r_iinc C hd hy (z_add y n) hn hl k
theorem zr_icmp_eq (C : fxC G d cc nL own nm ret hh x) {a b : Int} {off : Int} {tgt : Nat} (hd : decode cc pc = .ok (.if_icmp .eq off, 3)) (ht : (pc : Int) + off = (tgt : Int)) (ha : zok a) (hb : zok b) (k1 : a = b → fxR G nL x Q w tgt ls st) (k2 : ¬ a = b → fxR G nL x Q w (pc + 3) ls st) : fxR G nL x Q w pc ls (zi b :: zi a :: st) := r_icmp_eq C hd ht (fun h => k1 ((z_eq ha hb).mp h)) (fun h => k2 (fun q => h ((z_eq ha hb).mpr q)))
theorem zr_if_eq (C : fxC G d cc nL own nm ret hh x) {a : Int} {off : Int} {tgt : Nat} (hd : decode cc pc = .ok (.ifCond .eq off, 3)) (ht : (pc : Int) + off = (tgt : Int)) (ha : zok a) (k1 : a = 0 → fxR G nL x Q w tgt ls st) (k2 : ¬ a = 0 → fxR G nL x Q w (pc + 3) ls st) : fxR G nL x Q w pc ls (zi a :: st) := by
  have hb : zok 0 := ⟨by decide, by decide⟩
  exact r_if_eq C hd ht (fun h => k1 ((z_eq ha hb).mp h)) (fun h => k2 (fun q => h ((z_eq ha hb).mpr q)))
theorem zr_icmp_ne (C : fxC G d cc nL own nm ret hh x) {a b : Int} {off : Int} {tgt : Nat} (hd : decode cc pc = .ok (.if_icmp .ne off, 3)) (ht : (pc : Int) + off = (tgt : Int)) (ha : zok a) (hb : zok b) (k1 : ¬ a = b → fxR G nL x Q w tgt ls st) (k2 : a = b → fxR G nL x Q w (pc + 3) ls st) : fxR G nL x Q w pc ls (zi b :: zi a :: st) := r_icmp_ne C hd ht (fun h => k1 ((not_congr (z_eq ha hb)).mp h)) (fun h => k2 ((z_eq ha hb).mp h))
theorem zr_if_ne (C : fxC G d cc nL own nm ret hh x) {a : Int} {off : Int} {tgt : Nat} (hd : decode cc pc = .ok (.ifCond .ne off, 3)) (ht : (pc : Int) + off = (tgt : Int)) (ha : zok a) (k1 : ¬ a = 0 → fxR G nL x Q w tgt ls st) (k2 : a = 0 → fxR G nL x Q w (pc + 3) ls st) : fxR G nL x Q w pc ls (zi a :: st) := by
  have hb : zok 0 := ⟨by decide, by decide⟩
  exact r_if_ne C hd ht (fun h => k1 ((not_congr (z_eq ha hb)).mp h)) (fun h => k2 ((z_eq ha hb).mp h))
theorem zr_icmp_lt (C : fxC G d cc nL own nm ret hh x) {a b : Int} {off : Int} {tgt : Nat} (hd : decode cc pc = .ok (.if_icmp .lt off, 3)) (ht : (pc : Int) + off = (tgt : Int)) (ha : zok a) (hb : zok b) (k1 : a < b → fxR G nL x Q w tgt ls st) (k2 : ¬ a < b → fxR G nL x Q w (pc + 3) ls st) : fxR G nL x Q w pc ls (zi b :: zi a :: st) := r_icmp_lt C hd ht (fun h => k1 ((z_lt ha hb).mp h)) (fun h => k2 (fun q => h ((z_lt ha hb).mpr q)))
theorem zr_if_lt (C : fxC G d cc nL own nm ret hh x) {a : Int} {off : Int} {tgt : Nat} (hd : decode cc pc = .ok (.ifCond .lt off, 3)) (ht : (pc : Int) + off = (tgt : Int)) (ha : zok a) (k1 : a < 0 → fxR G nL x Q w tgt ls st) (k2 : ¬ a < 0 → fxR G nL x Q w (pc + 3) ls st) : fxR G nL x Q w pc ls (zi a :: st) := by
  have hb : zok 0 := ⟨by decide, by decide⟩
  exact r_if_lt C hd ht (fun h => k1 ((z_lt ha hb).mp h)) (fun h => k2 (fun q => h ((z_lt ha hb).mpr q)))
theorem zr_icmp_ge (C : fxC G d cc nL own nm ret hh x) {a b : Int} {off : Int} {tgt : Nat} (hd : decode cc pc = .ok (.if_icmp .ge off, 3)) (ht : (pc : Int) + off = (tgt : Int)) (ha : zok a) (hb : zok b) (k1 : b ≤ a → fxR G nL x Q w tgt ls st) (k2 : ¬ b ≤ a → fxR G nL x Q w (pc + 3) ls st) : fxR G nL x Q w pc ls (zi b :: zi a :: st) := r_icmp_ge C hd ht (fun h => k1 ((z_le hb ha).mp h)) (fun h => k2 (fun q => h ((z_le hb ha).mpr q)))
theorem zr_if_ge (C : fxC G d cc nL own nm ret hh x) {a : Int} {off : Int} {tgt : Nat} (hd : decode cc pc = .ok (.ifCond .ge off, 3)) (ht : (pc : Int) + off = (tgt : Int)) (ha : zok a) (k1 : 0 ≤ a → fxR G nL x Q w tgt ls st) (k2 : ¬ 0 ≤ a → fxR G nL x Q w (pc + 3) ls st) : fxR G nL x Q w pc ls (zi a :: st) := by
  have hb : zok 0 := ⟨by decide, by decide⟩
  exact r_if_ge C hd ht (fun h => k1 ((z_le hb ha).mp h)) (fun h => k2 (fun q => h ((z_le hb ha).mpr q)))
theorem zr_icmp_gt (C : fxC G d cc nL own nm ret hh x) {a b : Int} {off : Int} {tgt : Nat} (hd : decode cc pc = .ok (.if_icmp .gt off, 3)) (ht : (pc : Int) + off = (tgt : Int)) (ha : zok a) (hb : zok b) (k1 : b < a → fxR G nL x Q w tgt ls st) (k2 : ¬ b < a → fxR G nL x Q w (pc + 3) ls st) : fxR G nL x Q w pc ls (zi b :: zi a :: st) := r_icmp_gt C hd ht (fun h => k1 ((z_lt hb ha).mp h)) (fun h => k2 (fun q => h ((z_lt hb ha).mpr q)))
theorem zr_if_gt (C : fxC G d cc nL own nm ret hh x) {a : Int} {off : Int} {tgt : Nat} (hd : decode cc pc = .ok (.ifCond .gt off, 3)) (ht : (pc : Int) + off = (tgt : Int)) (ha : zok a) (k1 : 0 < a → fxR G nL x Q w tgt ls st) (k2 : ¬ 0 < a → fxR G nL x Q w (pc + 3) ls st) : fxR G nL x Q w pc ls (zi a :: st) := by
  have hb : zok 0 := ⟨by decide, by decide⟩
  exact r_if_gt C hd ht (fun h => k1 ((z_lt hb ha).mp h)) (fun h => k2 (fun q => h ((z_lt hb ha).mpr q)))
theorem zr_icmp_le (C : fxC G d cc nL own nm ret hh x) {a b : Int} {off : Int} {tgt : Nat} (hd : decode cc pc = .ok (.if_icmp .le off, 3)) (ht : (pc : Int) + off = (tgt : Int)) (ha : zok a) (hb : zok b) (k1 : a ≤ b → fxR G nL x Q w tgt ls st) (k2 : ¬ a ≤ b → fxR G nL x Q w (pc + 3) ls st) : fxR G nL x Q w pc ls (zi b :: zi a :: st) := r_icmp_le C hd ht (fun h => k1 ((z_le ha hb).mp h)) (fun h => k2 (fun q => h ((z_le ha hb).mpr q)))
theorem zr_if_le (C : fxC G d cc nL own nm ret hh x) {a : Int} {off : Int} {tgt : Nat} (hd : decode cc pc = .ok (.ifCond .le off, 3)) (ht : (pc : Int) + off = (tgt : Int)) (ha : zok a) (k1 : a ≤ 0 → fxR G nL x Q w tgt ls st) (k2 : ¬ a ≤ 0 → fxR G nL x Q w (pc + 3) ls st) : fxR G nL x Q w pc ls (zi a :: st) := by
  have hb : zok 0 := ⟨by decide, by decide⟩
  exact r_if_le C hd ht (fun h => k1 ((z_le ha hb).mp h)) (fun h => k2 (fun q => h ((z_le ha hb).mpr q)))
theorem zr_iaload (C : fxC G d cc nL own nm ret hh x) {a t n k : Nat} {j : Int} {v : Value} (hd : decode cc pc = .ok (.iaload, 1)) (ht : t < 100) (hty : fxAr[t]? = some .int) (ha : fxk w a = some (100 + t, n) ∨ fxk w a = some (200 + t, n)) (hj : j = (k : Int)) (hk : k < n) (hn : n < 2147483648) (hv : fxe w t a k = v) (kk : fxR G nL x Q w (pc + 1) ls (v :: st)) : fxR G nL x Q w pc ls (zi j :: .ref a :: st) := r_iaload C hd ht hty ha (z_in hj hk hn).1 (by rw [(z_in hj hk hn).2]; exact hv) kk
theorem zr_laload (C : fxC G d cc nL own nm ret hh x) {a t n k : Nat} {j : Int} {v : Value} (hd : decode cc pc = .ok (.laload, 1)) (ht : t < 100) (hty : fxAr[t]? = some .long) (ha : fxk w a = some (100 + t, n) ∨ fxk w a = some (200 + t, n)) (hj : j = (k : Int)) (hk : k < n) (hn : n < 2147483648) (hv : fxe w t a k = v) (kk : fxR G nL x Q w (pc + 1) ls (v :: st)) : fxR G nL x Q w pc ls (zi j :: .ref a :: st) := r_laload C hd ht hty ha (z_in hj hk hn).1 (by rw [(z_in hj hk hn).2]; exact hv) kk
theorem zr_aaload (C : fxC G d cc nL own nm ret hh x) {a t n k : Nat} {j : Int} {v : Value} {ty : FieldType} (hd : decode cc pc = .ok (.aaload, 1)) (ht : t < 100) (hty : fxAr[t]? = some ty) (href : ty.isReference = true) (ha : fxk w a = some (100 + t, n) ∨ fxk w a = some (200 + t, n)) (hj : j = (k : Int)) (hk : k < n) (hn : n < 2147483648) (hv : fxe w t a k = v) (kk : fxR G nL x Q w (pc + 1) ls (v :: st)) : fxR G nL x Q w pc ls (zi j :: .ref a :: st) := r_aaload C hd ht hty href ha (z_in hj hk hn).1 (by rw [(z_in hj hk hn).2]; exact hv) kk
theorem zr_iastore (C : fxC G d cc nL own nm ret hh x) {a t n k : Nat} {j : Int} {v : Int32} (hd : decode cc pc = .ok (.iastore, 1)) (ht : t < 100) (hty : fxAr[t]? = some .int) (ha : fxk w a = some (100 + t, n)) (hj : j = (k : Int)) (hk : k < n) (hn : n < 2147483648) (kk : fxR G nL x Q (fx_ast w t a k (.int v)) (pc + 1) ls st) : fxR G nL x Q w pc ls (.int v :: zi j :: .ref a :: st) := r_iastore C hd ht hty ha (z_in hj hk hn).1 (by rw [(z_in hj hk hn).2]; exact kk)
theorem zr_lastore (C : fxC G d cc nL own nm ret hh x) {a t n k : Nat} {j : Int} {v : Int64} (hd : decode cc pc = .ok (.lastore, 1)) (ht : t < 100) (hty : fxAr[t]? = some .long) (ha : fxk w a = some (100 + t, n)) (hj : j = (k : Int)) (hk : k < n) (hn : n < 2147483648) (kk : fxR G nL x Q (fx_ast w t a k (.long v)) (pc + 1) ls st) : fxR G nL x Q w pc ls (.long v :: zi j :: .ref a :: st) := r_lastore C hd ht hty ha (z_in hj hk hn).1 (by rw [(z_in hj hk hn).2]; exact kk)
theorem zr_aastore (C : fxC G d cc nL own nm ret hh x) {a b t n n' ci k : Nat} {j : Int} {r : vw_C} {E : String} (hd : decode cc pc = .ok (.aastore, 1)) (ht : t < 100) (hty : fxAr[t]? = some (.object E)) (ha : fxk w a = some (100 + t, n)) (hb9 : fxk w b = some (ci, n')) (hci : ci < 100) (hc : fxCl[ci]? = some r) (hca : r.1 = E ∨ Cond.castable r.1 E ∈ fxTW) (hj : j = (k : Int)) (hk : k < n) (hn : n < 2147483648) (kk : fxR G nL x Q (fx_ast w t a k (.ref b)) (pc + 1) ls st) : fxR G nL x Q w pc ls (.ref b :: zi j :: .ref a :: st) := r_aastore C hd ht hty ha hb9 hci hc hca (z_in hj hk hn).1 (by rw [(z_in hj hk hn).2]; exact kk)
theorem zr_aastoreN (C : fxC G d cc nL own nm ret hh x) {a t n k : Nat} {j : Int} {E : String} (hd : decode cc pc = .ok (.aastore, 1)) (ht : t < 100) (hty : fxAr[t]? = some (.object E)) (ha : fxk w a = some (100 + t, n)) (hj : j = (k : Int)) (hk : k < n) (hn : n < 2147483648) (kk : fxR G nL x Q (fx_ast w t a k .null) (pc + 1) ls st) : fxR G nL x Q w pc ls (.null :: zi j :: .ref a :: st) := r_aastoreN C hd ht hty ha (z_in hj hk hn).1 (by rw [(z_in hj hk hn).2]; exact kk)
theorem zr_alen (C : fxC G d cc nL own nm ret hh x) {a t n : Nat} (hd : decode cc pc = .ok (.arraylength, 1)) (ht : t < 100) (ha : fxk w a = some (100 + t, n) ∨ fxk w a = some (200 + t, n)) (k : fxR G nL x Q w (pc + 1) ls (zi (n : Int) :: st)) : fxR G nL x Q w pc ls (.ref a :: st) := r_alen C hd ht ha (z_nat n) k
theorem zr_tableIn (C : fxC G d cc nL own nm ret hh x) {dflt lo hi : Int} {offs : Array Int} {len : Nat} {a : Int} {off : Int} {tgt : Nat} (hd : decode cc pc = .ok (.tableswitch dflt lo hi offs, len)) (ha : zok a) (h1 : lo ≤ a) (h2 : a ≤ hi) (ho : offs[(a - lo).toNat]? = some off) (ht : (pc : Int) + off = (tgt : Int)) (k : fxR G nL x Q w tgt ls st) : fxR G nL x Q w pc ls (zi a :: st) := r_tableIn C hd (by rw [zok_toInt ha]; omega) (by rw [zok_toInt ha]; omega) (by rw [zok_toInt ha]; exact ho) ht k
theorem zr_tableOut (C : fxC G d cc nL own nm ret hh x) {dflt lo hi : Int} {offs : Array Int} {len : Nat} {a : Int} {tgt : Nat} (hd : decode cc pc = .ok (.tableswitch dflt lo hi offs, len)) (ha : zok a) (h1 : a < lo ∨ hi < a) (ht : (pc : Int) + dflt = (tgt : Int)) (k : fxR G nL x Q w tgt ls st) : fxR G nL x Q w pc ls (zi a :: st) := r_tableOut C hd (by rw [zok_toInt ha]; exact h1) ht k
end FXZ
end
section
theorem ini_ForkPool : Cond.initialized "ForkPool" ∈ fxTW := fxTW_in 39 (by decide +kernel) rfl
theorem ini_ForkPool_Job : Cond.initialized "ForkPool$Job" ∈ fxTW := fxTW_in 53 (by decide +kernel) rfl
theorem ini_ForkPool_Row : Cond.initialized "ForkPool$Row" ∈ fxTW := fxTW_in 40 (by decide +kernel) rfl
theorem ini_ForkPool_Task : Cond.initialized "ForkPool$Task" ∈ fxTW := fxTW_in 54 (by decide +kernel) rfl
theorem ini_ForkPool_Worker : Cond.initialized "ForkPool$Worker" ∈ fxTW := fxTW_in 42 (by decide +kernel) rfl
theorem ini_ForkPoolLaw : Cond.initialized "ForkPoolLaw" ∈ fxTW := fxTW_in 38 (by decide +kernel) rfl
theorem ini_ForkPoolModel : Cond.initialized "ForkPoolModel" ∈ fxTW := fxTW_in 46 (by decide +kernel) rfl
theorem ini_java_lang_ArithmeticException : Cond.initialized "java/lang/ArithmeticException" ∈ fxTW := fxTW_in 60 (by decide +kernel) rfl
theorem ini_java_lang_Exception : Cond.initialized "java/lang/Exception" ∈ fxTW := fxTW_in 48 (by decide +kernel) rfl
theorem ini_java_lang_IllegalArgumentException : Cond.initialized "java/lang/IllegalArgumentException" ∈ fxTW := fxTW_in 50 (by decide +kernel) rfl
theorem ini_java_lang_IllegalStateException : Cond.initialized "java/lang/IllegalStateException" ∈ fxTW := fxTW_in 51 (by decide +kernel) rfl
theorem ini_java_lang_Math : Cond.initialized "java/lang/Math" ∈ fxTW := fxTW_in 41 (by decide +kernel) rfl
theorem ini_java_lang_RuntimeException : Cond.initialized "java/lang/RuntimeException" ∈ fxTW := fxTW_in 49 (by decide +kernel) rfl
theorem ini_java_lang_System : Cond.initialized "java/lang/System" ∈ fxTW := fxTW_in 57 (by decide +kernel) rfl
theorem ini_java_lang_Throwable : Cond.initialized "java/lang/Throwable" ∈ fxTW := fxTW_in 47 (by decide +kernel) rfl
theorem ini_java_lang_UnsupportedOperationException : Cond.initialized "java/lang/UnsupportedOperationException" ∈ fxTW := fxTW_in 61 (by decide +kernel) rfl
theorem ini_java_util_AbstractCollection : Cond.initialized "java/util/AbstractCollection" ∈ fxTW := fxTW_in 43 (by decide +kernel) rfl
theorem ini_java_util_AbstractList : Cond.initialized "java/util/AbstractList" ∈ fxTW := fxTW_in 44 (by decide +kernel) rfl
theorem ini_java_util_ArrayList : Cond.initialized "java/util/ArrayList" ∈ fxTW := fxTW_in 45 (by decide +kernel) rfl
theorem ini_java_util_Arrays : Cond.initialized "java/util/Arrays" ∈ fxTW := fxTW_in 56 (by decide +kernel) rfl
theorem ini_java_util_NoSuchElementException : Cond.initialized "java/util/NoSuchElementException" ∈ fxTW := fxTW_in 52 (by decide +kernel) rfl
theorem ini_java_util_Objects : Cond.initialized "java/util/Objects" ∈ fxTW := fxTW_in 58 (by decide +kernel) rfl
theorem ini_jdk_internal_util_ArraysSupport : Cond.initialized "jdk/internal/util/ArraysSupport" ∈ fxTW := fxTW_in 55 (by decide +kernel) rfl
theorem ini_jdk_internal_util_Preconditions : Cond.initialized "jdk/internal/util/Preconditions" ∈ fxTW := fxTW_in 59 (by decide +kernel) rfl
abbrev cc_AL_add1 : ByteArray := prog_23_method_25_code
abbrev y_AL_add1 : MethodName := ⟨"java/util/ArrayList", "add", "(Ljava/lang/Object;)Z"⟩
theorem np_AL_add1 : (parseMethodDescriptor y_AL_add1.desc).map (fun q => q.parameters.length) = some 1 := by decide +kernel
theorem w_AL_add1 : fxcode y_AL_add1 cc_AL_add1 2 (some .boolean) [] ∈ fxTW := fxTW_in 440 (by decide +kernel) rfl
abbrev cc_AL_add3 : ByteArray := prog_23_method_24_code
abbrev y_AL_add3 : MethodName := ⟨"java/util/ArrayList", "add", "(Ljava/lang/Object;[Ljava/lang/Object;I)V"⟩
theorem np_AL_add3 : (parseMethodDescriptor y_AL_add3.desc).map (fun q => q.parameters.length) = some 3 := by decide +kernel
theorem w_AL_add3 : fxcode y_AL_add3 cc_AL_add3 4 none [] ∈ fxTW := fxTW_in 444 (by decide +kernel) rfl
abbrev cc_AL_elementData : ByteArray := prog_23_method_18_code
abbrev y_AL_elementData : MethodName := ⟨"java/util/ArrayList", "elementData", "(I)Ljava/lang/Object;"⟩
theorem np_AL_elementData : (parseMethodDescriptor y_AL_elementData.desc).map (fun q => q.parameters.length) = some 1 := by decide +kernel
theorem w_AL_elementData : fxcode y_AL_elementData cc_AL_elementData 2 (some (.object "java/lang/Object")) [] ∈ fxTW := fxTW_in 619 (by decide +kernel) rfl
abbrev cc_AL_fastRemove : ByteArray := prog_23_method_39_code
abbrev y_AL_fastRemove : MethodName := ⟨"java/util/ArrayList", "fastRemove", "([Ljava/lang/Object;I)V"⟩
theorem np_AL_fastRemove : (parseMethodDescriptor y_AL_fastRemove.desc).map (fun q => q.parameters.length) = some 2 := by decide +kernel
theorem w_AL_fastRemove : fxcode y_AL_fastRemove cc_AL_fastRemove 4 none [] ∈ fxTW := fxTW_in 529 (by decide +kernel) rfl
abbrev cc_AL_get : ByteArray := prog_23_method_20_code
abbrev y_AL_get : MethodName := ⟨"java/util/ArrayList", "get", "(I)Ljava/lang/Object;"⟩
theorem np_AL_get : (parseMethodDescriptor y_AL_get.desc).map (fun q => q.parameters.length) = some 1 := by decide +kernel
theorem w_AL_get : fxcode y_AL_get cc_AL_get 2 (some (.object "java/lang/Object")) [] ∈ fxTW := fxTW_in 615 (by decide +kernel) rfl
abbrev cc_AL_grow0 : ByteArray := prog_23_method_7_code
abbrev y_AL_grow0 : MethodName := ⟨"java/util/ArrayList", "grow", "()[Ljava/lang/Object;"⟩
theorem np_AL_grow0 : (parseMethodDescriptor y_AL_grow0.desc).map (fun q => q.parameters.length) = some 0 := by decide +kernel
theorem w_AL_grow0 : fxcode y_AL_grow0 cc_AL_grow0 1 (some (.array (.object "java/lang/Object"))) [] ∈ fxTW := fxTW_in 448 (by decide +kernel) rfl
abbrev cc_AL_grow1 : ByteArray := prog_23_method_6_code
abbrev y_AL_grow1 : MethodName := ⟨"java/util/ArrayList", "grow", "(I)[Ljava/lang/Object;"⟩
theorem np_AL_grow1 : (parseMethodDescriptor y_AL_grow1.desc).map (fun q => q.parameters.length) = some 1 := by decide +kernel
theorem w_AL_grow1 : fxcode y_AL_grow1 cc_AL_grow1 4 (some (.array (.object "java/lang/Object"))) [] ∈ fxTW := fxTW_in 452 (by decide +kernel) rfl
abbrev cc_AL_init : ByteArray := prog_23_method_2_code
abbrev y_AL_init : MethodName := ⟨"java/util/ArrayList", "<init>", "()V"⟩
theorem np_AL_init : (parseMethodDescriptor y_AL_init.desc).map (fun q => q.parameters.length) = some 0 := by decide +kernel
theorem w_AL_init : fxcode y_AL_init cc_AL_init 1 none [] ∈ fxTW := fxTW_in 107 (by decide +kernel) rfl
abbrev cc_AL_remove : ByteArray := prog_23_method_29_code
abbrev y_AL_remove : MethodName := ⟨"java/util/ArrayList", "remove", "(I)Ljava/lang/Object;"⟩
theorem np_AL_remove : (parseMethodDescriptor y_AL_remove.desc).map (fun q => q.parameters.length) = some 1 := by decide +kernel
theorem w_AL_remove : fxcode y_AL_remove cc_AL_remove 4 (some (.object "java/lang/Object")) [] ∈ fxTW := fxTW_in 519 (by decide +kernel) rfl
abbrev cc_AL_size : ByteArray := prog_23_method_8_code
abbrev y_AL_size : MethodName := ⟨"java/util/ArrayList", "size", "()I"⟩
theorem np_AL_size : (parseMethodDescriptor y_AL_size.desc).map (fun q => q.parameters.length) = some 0 := by decide +kernel
theorem w_AL_size : fxcode y_AL_size cc_AL_size 1 (some .int) [] ∈ fxTW := fxTW_in 511 (by decide +kernel) rfl
abbrev cc_AbC_init : ByteArray := prog_21_method_1_code
abbrev y_AbC_init : MethodName := ⟨"java/util/AbstractCollection", "<init>", "()V"⟩
theorem np_AbC_init : (parseMethodDescriptor y_AbC_init.desc).map (fun q => q.parameters.length) = some 0 := by decide +kernel
theorem w_AbC_init : fxcode y_AbC_init cc_AbC_init 1 none [] ∈ fxTW := fxTW_in 113 (by decide +kernel) rfl
abbrev cc_AbL_init : ByteArray := prog_22_method_1_code
abbrev y_AbL_init : MethodName := ⟨"java/util/AbstractList", "<init>", "()V"⟩
theorem np_AbL_init : (parseMethodDescriptor y_AbL_init.desc).map (fun q => q.parameters.length) = some 0 := by decide +kernel
theorem w_AbL_init : fxcode y_AbL_init cc_AbL_init 1 none [] ∈ fxTW := fxTW_in 110 (by decide +kernel) rfl
abbrev cc_Ar_copyOf2 : ByteArray := prog_24_method_119_code
abbrev y_Ar_copyOf2 : MethodName := ⟨"java/util/Arrays", "copyOf", "([Ljava/lang/Object;I)[Ljava/lang/Object;"⟩
theorem np_Ar_copyOf2 : (parseMethodDescriptor y_Ar_copyOf2.desc).map (fun q => q.parameters.length) = some 2 := by decide +kernel
theorem w_Ar_copyOf2 : fxcode y_Ar_copyOf2 cc_Ar_copyOf2 2 (some (.array (.object "java/lang/Object"))) [] ∈ fxTW := fxTW_in 463 (by decide +kernel) rfl
abbrev cc_Ar_copyOf3 : ByteArray := prog_24_method_120_code
abbrev y_Ar_copyOf3 : MethodName := ⟨"java/util/Arrays", "copyOf", "([Ljava/lang/Object;ILjava/lang/Class;)[Ljava/lang/Object;"⟩
theorem np_Ar_copyOf3 : (parseMethodDescriptor y_Ar_copyOf3.desc).map (fun q => q.parameters.length) = some 3 := by decide +kernel
theorem w_Ar_copyOf3 : fxcode y_Ar_copyOf3 cc_Ar_copyOf3 4 (some (.array (.object "java/lang/Object"))) [] ∈ fxTW := fxTW_in 482 (by decide +kernel) rfl
abbrev cc_As_hugeLength : ByteArray := prog_31_method_28_code
abbrev y_As_hugeLength : MethodName := ⟨"jdk/internal/util/ArraysSupport", "hugeLength", "(II)I"⟩
theorem np_As_hugeLength : (parseMethodDescriptor y_As_hugeLength.desc).map (fun q => q.parameters.length) = some 2 := by decide +kernel
theorem w_As_hugeLength : fxcode y_As_hugeLength cc_As_hugeLength 3 (some .int) [] ∈ fxTW := fxTW_in 460 (by decide +kernel) rfl
abbrev cc_As_newLength : ByteArray := prog_31_method_27_code
abbrev y_As_newLength : MethodName := ⟨"jdk/internal/util/ArraysSupport", "newLength", "(III)I"⟩
theorem np_As_newLength : (parseMethodDescriptor y_As_newLength.desc).map (fun q => q.parameters.length) = some 3 := by decide +kernel
theorem w_As_newLength : fxcode y_As_newLength cc_As_newLength 4 (some .int) [] ∈ fxTW := fxTW_in 455 (by decide +kernel) rfl
abbrev cc_FP_array : ByteArray := prog_1_method_2_code
abbrev y_FP_array : MethodName := ⟨"ForkPool", "array", "(III)I"⟩
theorem np_FP_array : (parseMethodDescriptor y_FP_array.desc).map (fun q => q.parameters.length) = some 3 := by decide +kernel
theorem w_FP_array : fxcode y_FP_array cc_FP_array 4 (some .int) [] ∈ fxTW := fxTW_in 181 (by decide +kernel) rfl
abbrev cc_FP_begin : ByteArray := prog_1_method_5_code
abbrev y_FP_begin : MethodName := ⟨"ForkPool", "begin", "(IIIII)I"⟩
theorem np_FP_begin : (parseMethodDescriptor y_FP_begin.desc).map (fun q => q.parameters.length) = some 5 := by decide +kernel
theorem w_FP_begin : fxcode y_FP_begin cc_FP_begin 8 (some .int) [] ∈ fxTW := fxTW_in 337 (by decide +kernel) rfl
abbrev cc_FP_begunJob : ByteArray := prog_1_method_19_code
abbrev y_FP_begunJob : MethodName := ⟨"ForkPool", "begunJob", "(I)LForkPool$Job;"⟩
theorem np_FP_begunJob : (parseMethodDescriptor y_FP_begunJob.desc).map (fun q => q.parameters.length) = some 1 := by decide +kernel
theorem w_FP_begunJob : fxcode y_FP_begunJob cc_FP_begunJob 2 (some (.object "ForkPool$Job")) [] ∈ fxTW := fxTW_in 639 (by decide +kernel) rfl
abbrev cc_FP_cancel : ByteArray := prog_1_method_9_code
abbrev y_FP_cancel : MethodName := ⟨"ForkPool", "cancel", "(I)I"⟩
theorem np_FP_cancel : (parseMethodDescriptor y_FP_cancel.desc).map (fun q => q.parameters.length) = some 1 := by decide +kernel
theorem w_FP_cancel : fxcode y_FP_cancel cc_FP_cancel 4 (some .int) [] ∈ fxTW := fxTW_in 689 (by decide +kernel) rfl
abbrev cc_FP_count : ByteArray := prog_1_method_14_code
abbrev y_FP_count : MethodName := ⟨"ForkPool", "count", "(I)I"⟩
theorem np_FP_count : (parseMethodDescriptor y_FP_count.desc).map (fun q => q.parameters.length) = some 1 := by decide +kernel
theorem w_FP_count : fxcode y_FP_count cc_FP_count 2 (some .int) [] ∈ fxTW := fxTW_in 747 (by decide +kernel) rfl
abbrev cc_FP_endRound : ByteArray := prog_1_method_26_code
abbrev y_FP_endRound : MethodName := ⟨"ForkPool", "endRound", "(LForkPool$Task;LForkPool$Worker;)V"⟩
theorem np_FP_endRound : (parseMethodDescriptor y_FP_endRound.desc).map (fun q => q.parameters.length) = some 2 := by decide +kernel
theorem w_FP_endRound : fxcode y_FP_endRound cc_FP_endRound 4 none [] ∈ fxTW := fxTW_in 603 (by decide +kernel) rfl
abbrev cc_FP_endTask : ByteArray := prog_1_method_25_code
abbrev y_FP_endTask : MethodName := ⟨"ForkPool", "endTask", "(LForkPool$Task;LForkPool$Worker;)V"⟩
theorem np_FP_endTask : (parseMethodDescriptor y_FP_endTask.desc).map (fun q => q.parameters.length) = some 2 := by decide +kernel
theorem w_FP_endTask : fxcode y_FP_endTask cc_FP_endTask 4 none [] ∈ fxTW := fxTW_in 592 (by decide +kernel) rfl
abbrev cc_FP_fail : ByteArray := prog_1_method_27_code
abbrev y_FP_fail : MethodName := ⟨"ForkPool", "fail", "(LForkPool$Job;I)V"⟩
theorem np_FP_fail : (parseMethodDescriptor y_FP_fail.desc).map (fun q => q.parameters.length) = some 2 := by decide +kernel
theorem w_FP_fail : fxcode y_FP_fail cc_FP_fail 4 none [] ∈ fxTW := fxTW_in 607 (by decide +kernel) rfl
abbrev cc_FP_findVictim : ByteArray := prog_1_method_22_code
abbrev y_FP_findVictim : MethodName := ⟨"ForkPool", "findVictim", "(LForkPool$Worker;)LForkPool$Worker;"⟩
theorem np_FP_findVictim : (parseMethodDescriptor y_FP_findVictim.desc).map (fun q => q.parameters.length) = some 1 := by decide +kernel
theorem w_FP_findVictim : fxcode y_FP_findVictim cc_FP_findVictim 4 (some (.object "ForkPool$Worker")) [] ∈ fxTW := fxTW_in 623 (by decide +kernel) rfl
abbrev cc_FP_get : ByteArray := prog_1_method_4_code
abbrev y_FP_get : MethodName := ⟨"ForkPool", "get", "(II)J"⟩
theorem np_FP_get : (parseMethodDescriptor y_FP_get.desc).map (fun q => q.parameters.length) = some 2 := by decide +kernel
theorem w_FP_get : fxcode y_FP_get cc_FP_get 3 (some .long) [] ∈ fxTW := fxTW_in 330 (by decide +kernel) rfl
abbrev cc_FP_grain : ByteArray := prog_1_method_13_code
abbrev y_FP_grain : MethodName := ⟨"ForkPool", "grain", "(I)I"⟩
theorem np_FP_grain : (parseMethodDescriptor y_FP_grain.desc).map (fun q => q.parameters.length) = some 1 := by decide +kernel
theorem w_FP_grain : fxcode y_FP_grain cc_FP_grain 3 (some .int) [] ∈ fxTW := fxTW_in 739 (by decide +kernel) rfl
abbrev cc_FP_init : ByteArray := prog_1_method_1_code
abbrev y_FP_init : MethodName := ⟨"ForkPool", "<init>", "(I)V"⟩
theorem np_FP_init : (parseMethodDescriptor y_FP_init.desc).map (fun q => q.parameters.length) = some 1 := by decide +kernel
theorem w_FP_init : fxcode y_FP_init cc_FP_init 3 none [] ∈ fxTW := fxTW_in 66 (by decide +kernel) rfl
abbrev cc_FP_isWithin : ByteArray := prog_1_method_15_code
abbrev y_FP_isWithin : MethodName := ⟨"ForkPool", "isWithin", "(III)Z"⟩
theorem np_FP_isWithin : (parseMethodDescriptor y_FP_isWithin.desc).map (fun q => q.parameters.length) = some 3 := by decide +kernel
theorem w_FP_isWithin : fxcode y_FP_isWithin cc_FP_isWithin 3 (some .boolean) [] ∈ fxTW := fxTW_in 184 (by decide +kernel) rfl
abbrev cc_FP_job : ByteArray := prog_1_method_10_code
abbrev y_FP_job : MethodName := ⟨"ForkPool", "job", "(II)I"⟩
theorem np_FP_job : (parseMethodDescriptor y_FP_job.desc).map (fun q => q.parameters.length) = some 2 := by decide +kernel
theorem w_FP_job : fxcode y_FP_job cc_FP_job 4 (some .int) [] ∈ fxTW := fxTW_in 705 (by decide +kernel) rfl
abbrev cc_FP_join : ByteArray := prog_1_method_7_code
abbrev y_FP_join : MethodName := ⟨"ForkPool", "join", "(I)I"⟩
theorem np_FP_join : (parseMethodDescriptor y_FP_join.desc).map (fun q => q.parameters.length) = some 1 := by decide +kernel
theorem w_FP_join : fxcode y_FP_join cc_FP_join 4 (some .int) [] ∈ fxTW := fxTW_in 635 (by decide +kernel) rfl
abbrev cc_FP_madeRow : ByteArray := prog_1_method_16_code
abbrev y_FP_madeRow : MethodName := ⟨"ForkPool", "madeRow", "(I)LForkPool$Row;"⟩
theorem np_FP_madeRow : (parseMethodDescriptor y_FP_madeRow.desc).map (fun q => q.parameters.length) = some 1 := by decide +kernel
theorem w_FP_madeRow : fxcode y_FP_madeRow cc_FP_madeRow 2 (some (.object "ForkPool$Row")) [] ∈ fxTW := fxTW_in 294 (by decide +kernel) rfl
abbrev cc_FP_makeStep : ByteArray := prog_1_method_21_code
abbrev y_FP_makeStep : MethodName := ⟨"ForkPool", "makeStep", "()Z"⟩
theorem np_FP_makeStep : (parseMethodDescriptor y_FP_makeStep.desc).map (fun q => q.parameters.length) = some 0 := by decide +kernel
theorem w_FP_makeStep : fxcode y_FP_makeStep cc_FP_makeStep 3 (some .boolean) [] ∈ fxTW := fxTW_in 503 (by decide +kernel) rfl
abbrev cc_FP_mustFork : ByteArray := prog_1_method_24_code
abbrev y_FP_mustFork : MethodName := ⟨"ForkPool", "mustFork", "(LForkPool$Task;)Z"⟩
theorem np_FP_mustFork : (parseMethodDescriptor y_FP_mustFork.desc).map (fun q => q.parameters.length) = some 1 := by decide +kernel
theorem w_FP_mustFork : fxcode y_FP_mustFork cc_FP_mustFork 2 (some .boolean) [] ∈ fxTW := fxTW_in 539 (by decide +kernel) rfl
abbrev cc_FP_perform : ByteArray := prog_1_method_23_code
abbrev y_FP_perform : MethodName := ⟨"ForkPool", "perform", "(LForkPool$Task;LForkPool$Worker;)V"⟩
theorem np_FP_perform : (parseMethodDescriptor y_FP_perform.desc).map (fun q => q.parameters.length) = some 2 := by decide +kernel
theorem w_FP_perform : fxcode y_FP_perform cc_FP_perform 4 none [] ∈ fxTW := fxTW_in 535 (by decide +kernel) rfl
abbrev cc_FP_queuedTasks : ByteArray := prog_1_method_28_code
abbrev y_FP_queuedTasks : MethodName := ⟨"ForkPool", "queuedTasks", "(LForkPool$Job;)I"⟩
theorem np_FP_queuedTasks : (parseMethodDescriptor y_FP_queuedTasks.desc).map (fun q => q.parameters.length) = some 1 := by decide +kernel
theorem w_FP_queuedTasks : fxcode y_FP_queuedTasks cc_FP_queuedTasks 4 (some .int) [] ∈ fxTW := fxTW_in 694 (by decide +kernel) rfl
abbrev cc_FP_refuseIfBusy : ByteArray := prog_1_method_18_code
abbrev y_FP_refuseIfBusy : MethodName := ⟨"ForkPool", "refuseIfBusy", "(LForkPool$Row;)V"⟩
theorem np_FP_refuseIfBusy : (parseMethodDescriptor y_FP_refuseIfBusy.desc).map (fun q => q.parameters.length) = some 1 := by decide +kernel
theorem w_FP_refuseIfBusy : fxcode y_FP_refuseIfBusy cc_FP_refuseIfBusy 3 none [] ∈ fxTW := fxTW_in 258 (by decide +kernel) rfl
abbrev cc_FP_result : ByteArray := prog_1_method_8_code
abbrev y_FP_result : MethodName := ⟨"ForkPool", "result", "(I)J"⟩
theorem np_FP_result : (parseMethodDescriptor y_FP_result.desc).map (fun q => q.parameters.length) = some 1 := by decide +kernel
theorem w_FP_result : fxcode y_FP_result cc_FP_result 3 (some .long) [] ∈ fxTW := fxTW_in 665 (by decide +kernel) rfl
abbrev cc_FP_rowWith : ByteArray := prog_1_method_17_code
abbrev y_FP_rowWith : MethodName := ⟨"ForkPool", "rowWith", "(II)LForkPool$Row;"⟩
theorem np_FP_rowWith : (parseMethodDescriptor y_FP_rowWith.desc).map (fun q => q.parameters.length) = some 2 := by decide +kernel
theorem w_FP_rowWith : fxcode y_FP_rowWith cc_FP_rowWith 4 (some (.object "ForkPool$Row")) [] ∈ fxTW := fxTW_in 290 (by decide +kernel) rfl
abbrev cc_FP_set : ByteArray := prog_1_method_3_code
abbrev y_FP_set : MethodName := ⟨"ForkPool", "set", "(IIJ)J"⟩
theorem np_FP_set : (parseMethodDescriptor y_FP_set.desc).map (fun q => q.parameters.length) = some 3 := by decide +kernel
theorem w_FP_set : fxcode y_FP_set cc_FP_set 6 (some .long) [] ∈ fxTW := fxTW_in 286 (by decide +kernel) rfl
abbrev cc_FP_step : ByteArray := prog_1_method_6_code
abbrev y_FP_step : MethodName := ⟨"ForkPool", "step", "(I)I"⟩
theorem np_FP_step : (parseMethodDescriptor y_FP_step.desc).map (fun q => q.parameters.length) = some 1 := by decide +kernel
theorem w_FP_step : fxcode y_FP_step cc_FP_step 4 (some .int) [] ∈ fxTW := fxTW_in 498 (by decide +kernel) rfl
abbrev cc_FP_task : ByteArray := prog_1_method_11_code
abbrev y_FP_task : MethodName := ⟨"ForkPool", "task", "(III)I"⟩
theorem np_FP_task : (parseMethodDescriptor y_FP_task.desc).map (fun q => q.parameters.length) = some 3 := by decide +kernel
theorem w_FP_task : fxcode y_FP_task cc_FP_task 6 (some .int) [] ∈ fxTW := fxTW_in 713 (by decide +kernel) rfl
abbrev cc_FP_worker : ByteArray := prog_1_method_12_code
abbrev y_FP_worker : MethodName := ⟨"ForkPool", "worker", "(II)I"⟩
theorem np_FP_worker : (parseMethodDescriptor y_FP_worker.desc).map (fun q => q.parameters.length) = some 2 := by decide +kernel
theorem w_FP_worker : fxcode y_FP_worker cc_FP_worker 4 (some .int) [] ∈ fxTW := fxTW_in 731 (by decide +kernel) rfl
abbrev cc_FP_workerAt : ByteArray := prog_1_method_20_code
abbrev y_FP_workerAt : MethodName := ⟨"ForkPool", "workerAt", "(I)LForkPool$Worker;"⟩
theorem np_FP_workerAt : (parseMethodDescriptor y_FP_workerAt.desc).map (fun q => q.parameters.length) = some 1 := by decide +kernel
theorem w_FP_workerAt : fxcode y_FP_workerAt cc_FP_workerAt 2 (some (.object "ForkPool$Worker")) [] ∈ fxTW := fxTW_in 717 (by decide +kernel) rfl
abbrev cc_Job_doLeaf : ByteArray := prog_2_method_2_code
abbrev y_Job_doLeaf : MethodName := ⟨"ForkPool$Job", "doLeaf", "(LForkPool$Task;)I"⟩
theorem np_Job_doLeaf : (parseMethodDescriptor y_Job_doLeaf.desc).map (fun q => q.parameters.length) = some 1 := by decide +kernel
theorem w_Job_doLeaf : fxcode y_Job_doLeaf cc_Job_doLeaf 2 (some .int) [] ∈ fxTW := fxTW_in 555 (by decide +kernel) rfl
abbrev cc_Job_init : ByteArray := prog_2_method_1_code
abbrev y_Job_init : MethodName := ⟨"ForkPool$Job", "<init>", "(IILForkPool$Row;II)V"⟩
theorem np_Job_init : (parseMethodDescriptor y_Job_init.desc).map (fun q => q.parameters.length) = some 5 := by decide +kernel
theorem w_Job_init : fxcode y_Job_init cc_Job_init 6 none [] ∈ fxTW := fxTW_in 344 (by decide +kernel) rfl
abbrev cc_Job_joinParts : ByteArray := prog_2_method_3_code
abbrev y_Job_joinParts : MethodName := ⟨"ForkPool$Job", "joinParts", "(LForkPool$Task;)V"⟩
theorem np_Job_joinParts : (parseMethodDescriptor y_Job_joinParts.desc).map (fun q => q.parameters.length) = some 1 := by decide +kernel
theorem w_Job_joinParts : fxcode y_Job_joinParts cc_Job_joinParts 6 none [] ∈ fxTW := fxTW_in 596 (by decide +kernel) rfl
abbrev cc_Lw_array : ByteArray := method_3_code
abbrev y_Lw_array : MethodName := ⟨"ForkPoolLaw", "array", "(LForkPool;III[J)I"⟩
theorem np_Lw_array : (parseMethodDescriptor y_Lw_array.desc).map (fun q => q.parameters.length) = some 5 := by decide +kernel
theorem w_Lw_array : fxcode y_Lw_array cc_Lw_array 6 (some .int) [(0, 12, 15, 13), (0, 12, 19, 15)] ∈ fxTW := fxTW_in 175 (by decide +kernel) rfl
abbrev cc_Lw_begin : ByteArray := method_6_code
abbrev y_Lw_begin : MethodName := ⟨"ForkPoolLaw", "begin", "(LForkPool;IIIII[J)I"⟩
theorem np_Lw_begin : (parseMethodDescriptor y_Lw_begin.desc).map (fun q => q.parameters.length) = some 7 := by decide +kernel
theorem w_Lw_begin : fxcode y_Lw_begin cc_Lw_begin 8 (some .int) [(0, 16, 19, 21), (0, 16, 23, 13), (0, 16, 27, 15)] ∈ fxTW := fxTW_in 333 (by decide +kernel) rfl
abbrev cc_Lw_cancel : ByteArray := method_10_code
abbrev y_Lw_cancel : MethodName := ⟨"ForkPoolLaw", "cancel", "(LForkPool;I[J)I"⟩
theorem np_Lw_cancel : (parseMethodDescriptor y_Lw_cancel.desc).map (fun q => q.parameters.length) = some 3 := by decide +kernel
theorem w_Lw_cancel : fxcode y_Lw_cancel cc_Lw_cancel 4 (some .int) [(0, 9, 12, 21), (0, 9, 15, 15)] ∈ fxTW := fxTW_in 685 (by decide +kernel) rfl
abbrev cc_Lw_cell : ByteArray := method_2_code
abbrev y_Lw_cell : MethodName := ⟨"ForkPoolLaw", "cell", "([II)I"⟩
theorem np_Lw_cell : (parseMethodDescriptor y_Lw_cell.desc).map (fun q => q.parameters.length) = some 2 := by decide +kernel
theorem w_Lw_cell : fxcode y_Lw_cell cc_Lw_cell 2 (some .int) [] ∈ fxTW := fxTW_in 172 (by decide +kernel) rfl
abbrev cc_Lw_count : ByteArray := method_15_code
abbrev y_Lw_count : MethodName := ⟨"ForkPoolLaw", "count", "(LForkPool;I[J)I"⟩
theorem np_Lw_count : (parseMethodDescriptor y_Lw_count.desc).map (fun q => q.parameters.length) = some 3 := by decide +kernel
theorem w_Lw_count : fxcode y_Lw_count cc_Lw_count 4 (some .int) [(0, 9, 12, 13)] ∈ fxTW := fxTW_in 743 (by decide +kernel) rfl
abbrev cc_Lw_get : ByteArray := method_5_code
abbrev y_Lw_get : MethodName := ⟨"ForkPoolLaw", "get", "(LForkPool;II[J)I"⟩
theorem np_Lw_get : (parseMethodDescriptor y_Lw_get.desc).map (fun q => q.parameters.length) = some 4 := by decide +kernel
theorem w_Lw_get : fxcode y_Lw_get cc_Lw_get 5 (some .int) [(0, 9, 12, 21)] ∈ fxTW := fxTW_in 326 (by decide +kernel) rfl
abbrev cc_Lw_grain : ByteArray := method_14_code
abbrev y_Lw_grain : MethodName := ⟨"ForkPoolLaw", "grain", "(LForkPool;I[J)I"⟩
theorem np_Lw_grain : (parseMethodDescriptor y_Lw_grain.desc).map (fun q => q.parameters.length) = some 3 := by decide +kernel
theorem w_Lw_grain : fxcode y_Lw_grain cc_Lw_grain 4 (some .int) [(0, 9, 12, 13)] ∈ fxTW := fxTW_in 735 (by decide +kernel) rfl
abbrev cc_Lw_job : ByteArray := method_11_code
abbrev y_Lw_job : MethodName := ⟨"ForkPoolLaw", "job", "(LForkPool;II[J)I"⟩
theorem np_Lw_job : (parseMethodDescriptor y_Lw_job.desc).map (fun q => q.parameters.length) = some 4 := by decide +kernel
theorem w_Lw_job : fxcode y_Lw_job cc_Lw_job 5 (some .int) [(0, 10, 13, 21), (0, 10, 17, 13)] ∈ fxTW := fxTW_in 701 (by decide +kernel) rfl
abbrev cc_Lw_join : ByteArray := method_8_code
abbrev y_Lw_join : MethodName := ⟨"ForkPoolLaw", "join", "(LForkPool;I[J)I"⟩
theorem np_Lw_join : (parseMethodDescriptor y_Lw_join.desc).map (fun q => q.parameters.length) = some 3 := by decide +kernel
theorem w_Lw_join : fxcode y_Lw_join cc_Lw_join 4 (some .int) [(0, 9, 12, 21), (0, 9, 15, 38)] ∈ fxTW := fxTW_in 630 (by decide +kernel) rfl
abbrev cc_Lw_law : ByteArray := code
abbrev y_Lw_law : MethodName := ⟨"ForkPoolLaw", "law", "([I)Z"⟩
abbrev cc_Lw_result : ByteArray := method_9_code
abbrev y_Lw_result : MethodName := ⟨"ForkPoolLaw", "result", "(LForkPool;I[J)I"⟩
theorem np_Lw_result : (parseMethodDescriptor y_Lw_result.desc).map (fun q => q.parameters.length) = some 3 := by decide +kernel
theorem w_Lw_result : fxcode y_Lw_result cc_Lw_result 4 (some .int) [(0, 8, 11, 21), (0, 8, 14, 44), (0, 8, 17, 15)] ∈ fxTW := fxTW_in 660 (by decide +kernel) rfl
abbrev cc_Lw_set : ByteArray := method_4_code
abbrev y_Lw_set : MethodName := ⟨"ForkPoolLaw", "set", "(LForkPool;IIJ[J)I"⟩
theorem np_Lw_set : (parseMethodDescriptor y_Lw_set.desc).map (fun q => q.parameters.length) = some 5 := by decide +kernel
theorem w_Lw_set : fxcode y_Lw_set cc_Lw_set 7 (some .int) [(0, 11, 14, 21), (0, 11, 18, 15)] ∈ fxTW := fxTW_in 281 (by decide +kernel) rfl
abbrev cc_Lw_step : ByteArray := method_7_code
abbrev y_Lw_step : MethodName := ⟨"ForkPoolLaw", "step", "(LForkPool;I[J)I"⟩
theorem np_Lw_step : (parseMethodDescriptor y_Lw_step.desc).map (fun q => q.parameters.length) = some 3 := by decide +kernel
theorem w_Lw_step : fxcode y_Lw_step cc_Lw_step 4 (some .int) [(0, 9, 12, 13)] ∈ fxTW := fxTW_in 494 (by decide +kernel) rfl
abbrev cc_Lw_task : ByteArray := method_12_code
abbrev y_Lw_task : MethodName := ⟨"ForkPoolLaw", "task", "(LForkPool;III[J)I"⟩
theorem np_Lw_task : (parseMethodDescriptor y_Lw_task.desc).map (fun q => q.parameters.length) = some 5 := by decide +kernel
theorem w_Lw_task : fxcode y_Lw_task cc_Lw_task 6 (some .int) [(0, 12, 15, 21), (0, 12, 19, 13)] ∈ fxTW := fxTW_in 709 (by decide +kernel) rfl
abbrev cc_Lw_worker : ByteArray := method_13_code
abbrev y_Lw_worker : MethodName := ⟨"ForkPoolLaw", "worker", "(LForkPool;II[J)I"⟩
theorem np_Lw_worker : (parseMethodDescriptor y_Lw_worker.desc).map (fun q => q.parameters.length) = some 4 := by decide +kernel
theorem w_Lw_worker : fxcode y_Lw_worker cc_Lw_worker 5 (some .int) [(0, 10, 13, 21), (0, 10, 17, 13)] ∈ fxTW := fxTW_in 727 (by decide +kernel) rfl
abbrev cc_Ma_floorDiv : ByteArray := prog_15_method_49_code
abbrev y_Ma_floorDiv : MethodName := ⟨"java/lang/Math", "floorDiv", "(JJ)J"⟩
theorem np_Ma_floorDiv : (parseMethodDescriptor y_Ma_floorDiv.desc).map (fun q => q.parameters.length) = some 2 := by decide +kernel
theorem w_Ma_floorDiv : fxcode y_Ma_floorDiv cc_Ma_floorDiv 6 (some .long) [] ∈ fxTW := fxTW_in 588 (by decide +kernel) rfl
abbrev cc_Ma_maxI : ByteArray := prog_15_method_65_code
abbrev y_Ma_maxI : MethodName := ⟨"java/lang/Math", "max", "(II)I"⟩
theorem np_Ma_maxI : (parseMethodDescriptor y_Ma_maxI.desc).map (fun q => q.parameters.length) = some 2 := by decide +kernel
theorem w_Ma_maxI : fxcode y_Ma_maxI cc_Ma_maxI 2 (some .int) [] ∈ fxTW := fxTW_in 95 (by decide +kernel) rfl
abbrev cc_Ma_maxL : ByteArray := prog_15_method_66_code
abbrev y_Ma_maxL : MethodName := ⟨"java/lang/Math", "max", "(JJ)J"⟩
theorem np_Ma_maxL : (parseMethodDescriptor y_Ma_maxL.desc).map (fun q => q.parameters.length) = some 2 := by decide +kernel
theorem w_Ma_maxL : fxcode y_Ma_maxL cc_Ma_maxL 4 (some .long) [] ∈ fxTW := fxTW_in 323 (by decide +kernel) rfl
abbrev cc_Ma_minI : ByteArray := prog_15_method_69_code
abbrev y_Ma_minI : MethodName := ⟨"java/lang/Math", "min", "(II)I"⟩
theorem np_Ma_minI : (parseMethodDescriptor y_Ma_minI.desc).map (fun q => q.parameters.length) = some 2 := by decide +kernel
theorem w_Ma_minI : fxcode y_Ma_minI cc_Ma_minI 2 (some .int) [] ∈ fxTW := fxTW_in 92 (by decide +kernel) rfl
abbrev cc_Ma_minL : ByteArray := prog_15_method_70_code
abbrev y_Ma_minL : MethodName := ⟨"java/lang/Math", "min", "(JJ)J"⟩
theorem np_Ma_minL : (parseMethodDescriptor y_Ma_minL.desc).map (fun q => q.parameters.length) = some 2 := by decide +kernel
theorem w_Ma_minL : fxcode y_Ma_minL cc_Ma_minL 4 (some .long) [] ∈ fxTW := fxTW_in 320 (by decide +kernel) rfl
abbrev cc_Mo_array : ByteArray := prog_7_method_7_code
abbrev y_Mo_array : MethodName := ⟨"ForkPoolModel", "array", "(III)I"⟩
theorem np_Mo_array : (parseMethodDescriptor y_Mo_array.desc).map (fun q => q.parameters.length) = some 3 := by decide +kernel
theorem w_Mo_array : fxcode y_Mo_array cc_Mo_array 5 (some .int) [] ∈ fxTW := fxTW_in 863 (by decide +kernel) rfl
abbrev cc_Mo_begin : ByteArray := prog_7_method_16_code
abbrev y_Mo_begin : MethodName := ⟨"ForkPoolModel", "begin", "(IIIII)I"⟩
theorem np_Mo_begin : (parseMethodDescriptor y_Mo_begin.desc).map (fun q => q.parameters.length) = some 5 := by decide +kernel
theorem w_Mo_begin : fxcode y_Mo_begin cc_Mo_begin 7 (some .int) [] ∈ fxTW := fxTW_in 895 (by decide +kernel) rfl
abbrev cc_Mo_busy : ByteArray := prog_7_method_6_code
abbrev y_Mo_busy : MethodName := ⟨"ForkPoolModel", "busy", "(I)Z"⟩
theorem np_Mo_busy : (parseMethodDescriptor y_Mo_busy.desc).map (fun q => q.parameters.length) = some 1 := by decide +kernel
theorem w_Mo_busy : fxcode y_Mo_busy cc_Mo_busy 3 (some .boolean) [] ∈ fxTW := fxTW_in 874 (by decide +kernel) rfl
abbrev cc_Mo_cancel : ByteArray := prog_7_method_33_code
abbrev y_Mo_cancel : MethodName := ⟨"ForkPoolModel", "cancel", "(I)I"⟩
theorem np_Mo_cancel : (parseMethodDescriptor y_Mo_cancel.desc).map (fun q => q.parameters.length) = some 1 := by decide +kernel
theorem w_Mo_cancel : fxcode y_Mo_cancel cc_Mo_cancel 3 (some .int) [] ∈ fxTW := fxTW_in 980 (by decide +kernel) rfl
abbrev cc_Mo_count : ByteArray := prog_7_method_38_code
abbrev y_Mo_count : MethodName := ⟨"ForkPoolModel", "count", "(I)I"⟩
theorem np_Mo_count : (parseMethodDescriptor y_Mo_count.desc).map (fun q => q.parameters.length) = some 1 := by decide +kernel
theorem w_Mo_count : fxcode y_Mo_count cc_Mo_count 2 (some .int) [] ∈ fxTW := fxTW_in 1004 (by decide +kernel) rfl
abbrev cc_Mo_down : ByteArray := prog_7_method_17_code
abbrev y_Mo_down : MethodName := ⟨"ForkPoolModel", "down", "(JJ)J"⟩
theorem np_Mo_down : (parseMethodDescriptor y_Mo_down.desc).map (fun q => q.parameters.length) = some 2 := by decide +kernel
theorem w_Mo_down : fxcode y_Mo_down cc_Mo_down 4 (some .long) [] ∈ fxTW := fxTW_in 960 (by decide +kernel) rfl
abbrev cc_Mo_end : ByteArray := prog_7_method_14_code
abbrev y_Mo_end : MethodName := ⟨"ForkPoolModel", "end", "(II)V"⟩
theorem np_Mo_end : (parseMethodDescriptor y_Mo_end.desc).map (fun q => q.parameters.length) = some 2 := by decide +kernel
theorem w_Mo_end : fxcode y_Mo_end cc_Mo_end 5 none [] ∈ fxTW := fxTW_in 947 (by decide +kernel) rfl
abbrev cc_Mo_finished : ByteArray := prog_7_method_25_code
abbrev y_Mo_finished : MethodName := ⟨"ForkPoolModel", "finished", "(II)V"⟩
theorem np_Mo_finished : (parseMethodDescriptor y_Mo_finished.desc).map (fun q => q.parameters.length) = some 2 := by decide +kernel
theorem w_Mo_finished : fxcode y_Mo_finished cc_Mo_finished 5 none [] ∈ fxTW := fxTW_in 964 (by decide +kernel) rfl
abbrev cc_Mo_fork : ByteArray := prog_7_method_26_code
abbrev y_Mo_fork : MethodName := ⟨"ForkPoolModel", "fork", "(II)V"⟩
theorem np_Mo_fork : (parseMethodDescriptor y_Mo_fork.desc).map (fun q => q.parameters.length) = some 2 := by decide +kernel
theorem w_Mo_fork : fxcode y_Mo_fork cc_Mo_fork 5 none [] ∈ fxTW := fxTW_in 923 (by decide +kernel) rfl
abbrev cc_Mo_get : ByteArray := prog_7_method_10_code
abbrev y_Mo_get : MethodName := ⟨"ForkPoolModel", "get", "(II)J"⟩
theorem np_Mo_get : (parseMethodDescriptor y_Mo_get.desc).map (fun q => q.parameters.length) = some 2 := by decide +kernel
theorem w_Mo_get : fxcode y_Mo_get cc_Mo_get 3 (some .long) [] ∈ fxTW := fxTW_in 891 (by decide +kernel) rfl
abbrev cc_Mo_grain : ByteArray := prog_7_method_37_code
abbrev y_Mo_grain : MethodName := ⟨"ForkPoolModel", "grain", "(I)I"⟩
theorem np_Mo_grain : (parseMethodDescriptor y_Mo_grain.desc).map (fun q => q.parameters.length) = some 1 := by decide +kernel
theorem w_Mo_grain : fxcode y_Mo_grain cc_Mo_grain 3 (some .int) [] ∈ fxTW := fxTW_in 1000 (by decide +kernel) rfl
abbrev cc_Mo_in : ByteArray := prog_7_method_4_code
abbrev y_Mo_in : MethodName := ⟨"ForkPoolModel", "in", "(III)Z"⟩
theorem np_Mo_in : (parseMethodDescriptor y_Mo_in.desc).map (fun q => q.parameters.length) = some 3 := by decide +kernel
theorem w_Mo_in : fxcode y_Mo_in cc_Mo_in 3 (some .boolean) [] ∈ fxTW := fxTW_in 866 (by decide +kernel) rfl
abbrev cc_Mo_inQueues : ByteArray := prog_7_method_13_code
abbrev y_Mo_inQueues : MethodName := ⟨"ForkPoolModel", "inQueues", "(I)I"⟩
theorem np_Mo_inQueues : (parseMethodDescriptor y_Mo_inQueues.desc).map (fun q => q.parameters.length) = some 1 := by decide +kernel
theorem w_Mo_inQueues : fxcode y_Mo_inQueues cc_Mo_inQueues 5 (some .int) [] ∈ fxTW := fxTW_in 984 (by decide +kernel) rfl
abbrev cc_Mo_init : ByteArray := prog_7_method_1_code
abbrev y_Mo_init : MethodName := ⟨"ForkPoolModel", "<init>", "(I)V"⟩
theorem np_Mo_init : (parseMethodDescriptor y_Mo_init.desc).map (fun q => q.parameters.length) = some 1 := by decide +kernel
theorem w_Mo_init : fxcode y_Mo_init cc_Mo_init 2 none [] ∈ fxTW := fxTW_in 753 (by decide +kernel) rfl
abbrev cc_Mo_job : ByteArray := prog_7_method_34_code
abbrev y_Mo_job : MethodName := ⟨"ForkPoolModel", "job", "(II)I"⟩
theorem np_Mo_job : (parseMethodDescriptor y_Mo_job.desc).map (fun q => q.parameters.length) = some 2 := by decide +kernel
theorem w_Mo_job : fxcode y_Mo_job cc_Mo_job 3 (some .int) [] ∈ fxTW := fxTW_in 988 (by decide +kernel) rfl
abbrev cc_Mo_join : ByteArray := prog_7_method_31_code
abbrev y_Mo_join : MethodName := ⟨"ForkPoolModel", "join", "(I)I"⟩
theorem np_Mo_join : (parseMethodDescriptor y_Mo_join.desc).map (fun q => q.parameters.length) = some 1 := by decide +kernel
theorem w_Mo_join : fxcode y_Mo_join cc_Mo_join 3 (some .int) [] ∈ fxTW := fxTW_in 968 (by decide +kernel) rfl
abbrev cc_Mo_joined : ByteArray := prog_7_method_22_code
abbrev y_Mo_joined : MethodName := ⟨"ForkPoolModel", "joined", "(IJJ)J"⟩
theorem np_Mo_joined : (parseMethodDescriptor y_Mo_joined.desc).map (fun q => q.parameters.length) = some 3 := by decide +kernel
theorem w_Mo_joined : fxcode y_Mo_joined cc_Mo_joined 6 (some .long) [] ∈ fxTW := fxTW_in 927 (by decide +kernel) rfl
abbrev cc_Mo_kept : ByteArray := prog_7_method_5_code
abbrev y_Mo_kept : MethodName := ⟨"ForkPoolModel", "kept", "(IJ)J"⟩
theorem np_Mo_kept : (parseMethodDescriptor y_Mo_kept.desc).map (fun q => q.parameters.length) = some 2 := by decide +kernel
theorem w_Mo_kept : fxcode y_Mo_kept cc_Mo_kept 3 (some .long) [] ∈ fxTW := fxTW_in 885 (by decide +kernel) rfl
abbrev cc_Mo_leaf : ByteArray := prog_7_method_24_code
abbrev y_Mo_leaf : MethodName := ⟨"ForkPoolModel", "leaf", "(I)Z"⟩
theorem np_Mo_leaf : (parseMethodDescriptor y_Mo_leaf.desc).map (fun q => q.parameters.length) = some 1 := by decide +kernel
theorem w_Mo_leaf : fxcode y_Mo_leaf cc_Mo_leaf 5 (some .boolean) [] ∈ fxTW := fxTW_in 931 (by decide +kernel) rfl
abbrev cc_Mo_mapped : ByteArray := prog_7_method_18_code
abbrev y_Mo_mapped : MethodName := ⟨"ForkPoolModel", "mapped", "(IJ)J"⟩
theorem np_Mo_mapped : (parseMethodDescriptor y_Mo_mapped.desc).map (fun q => q.parameters.length) = some 2 := by decide +kernel
theorem w_Mo_mapped : fxcode y_Mo_mapped cc_Mo_mapped 5 (some .long) [] ∈ fxTW := fxTW_in 951 (by decide +kernel) rfl
abbrev cc_Mo_noElement : ByteArray := prog_7_method_8_code
abbrev y_Mo_noElement : MethodName := ⟨"ForkPoolModel", "noElement", "(II)Z"⟩
theorem np_Mo_noElement : (parseMethodDescriptor y_Mo_noElement.desc).map (fun q => q.parameters.length) = some 2 := by decide +kernel
theorem w_Mo_noElement : fxcode y_Mo_noElement cc_Mo_noElement 3 (some .boolean) [] ∈ fxTW := fxTW_in 882 (by decide +kernel) rfl
abbrev cc_Mo_noJob : ByteArray := prog_7_method_30_code
abbrev y_Mo_noJob : MethodName := ⟨"ForkPoolModel", "noJob", "(I)Z"⟩
theorem np_Mo_noJob : (parseMethodDescriptor y_Mo_noJob.desc).map (fun q => q.parameters.length) = some 1 := by decide +kernel
theorem w_Mo_noJob : fxcode y_Mo_noJob cc_Mo_noJob 2 (some .boolean) [] ∈ fxTW := fxTW_in 972 (by decide +kernel) rfl
abbrev cc_Mo_node : ByteArray := prog_7_method_15_code
abbrev y_Mo_node : MethodName := ⟨"ForkPoolModel", "node", "(IIII)I"⟩
theorem np_Mo_node : (parseMethodDescriptor y_Mo_node.desc).map (fun q => q.parameters.length) = some 4 := by decide +kernel
theorem w_Mo_node : fxcode y_Mo_node cc_Mo_node 6 (some .int) [] ∈ fxTW := fxTW_in 899 (by decide +kernel) rfl
abbrev cc_Mo_order : ByteArray := prog_7_method_20_code
abbrev y_Mo_order : MethodName := ⟨"ForkPoolModel", "order", "(III)V"⟩
theorem np_Mo_order : (parseMethodDescriptor y_Mo_order.desc).map (fun q => q.parameters.length) = some 3 := by decide +kernel
theorem w_Mo_order : fxcode y_Mo_order cc_Mo_order 8 none [] ∈ fxTW := fxTW_in 943 (by decide +kernel) rfl
abbrev cc_Mo_perform : ByteArray := prog_7_method_27_code
abbrev y_Mo_perform : MethodName := ⟨"ForkPoolModel", "perform", "(II)V"⟩
theorem np_Mo_perform : (parseMethodDescriptor y_Mo_perform.desc).map (fun q => q.parameters.length) = some 2 := by decide +kernel
theorem w_Mo_perform : fxcode y_Mo_perform cc_Mo_perform 5 none [] ∈ fxTW := fxTW_in 919 (by decide +kernel) rfl
abbrev cc_Mo_pull : ByteArray := prog_7_method_12_code
abbrev y_Mo_pull : MethodName := ⟨"ForkPoolModel", "pull", "(II)I"⟩
theorem np_Mo_pull : (parseMethodDescriptor y_Mo_pull.desc).map (fun q => q.parameters.length) = some 2 := by decide +kernel
theorem w_Mo_pull : fxcode y_Mo_pull cc_Mo_pull 5 (some .int) [] ∈ fxTW := fxTW_in 915 (by decide +kernel) rfl
abbrev cc_Mo_put : ByteArray := prog_7_method_11_code
abbrev y_Mo_put : MethodName := ⟨"ForkPoolModel", "put", "(II)V"⟩
theorem np_Mo_put : (parseMethodDescriptor y_Mo_put.desc).map (fun q => q.parameters.length) = some 2 := by decide +kernel
theorem w_Mo_put : fxcode y_Mo_put cc_Mo_put 3 none [] ∈ fxTW := fxTW_in 903 (by decide +kernel) rfl
abbrev cc_Mo_raise : ByteArray := prog_7_method_3_code
abbrev y_Mo_raise : MethodName := ⟨"ForkPoolModel", "raise", "(I)I"⟩
theorem np_Mo_raise : (parseMethodDescriptor y_Mo_raise.desc).map (fun q => q.parameters.length) = some 1 := by decide +kernel
theorem w_Mo_raise : fxcode y_Mo_raise cc_Mo_raise 2 (some .int) [] ∈ fxTW := fxTW_in 870 (by decide +kernel) rfl
abbrev cc_Mo_reduced : ByteArray := prog_7_method_21_code
abbrev y_Mo_reduced : MethodName := ⟨"ForkPoolModel", "reduced", "(I)J"⟩
theorem np_Mo_reduced : (parseMethodDescriptor y_Mo_reduced.desc).map (fun q => q.parameters.length) = some 1 := by decide +kernel
theorem w_Mo_reduced : fxcode y_Mo_reduced cc_Mo_reduced 7 (some .long) [] ∈ fxTW := fxTW_in 935 (by decide +kernel) rfl
abbrev cc_Mo_result : ByteArray := prog_7_method_32_code
abbrev y_Mo_result : MethodName := ⟨"ForkPoolModel", "result", "(I)J"⟩
theorem np_Mo_result : (parseMethodDescriptor y_Mo_result.desc).map (fun q => q.parameters.length) = some 1 := by decide +kernel
theorem w_Mo_result : fxcode y_Mo_result cc_Mo_result 2 (some .long) [] ∈ fxTW := fxTW_in 976 (by decide +kernel) rfl
abbrev cc_Mo_set : ByteArray := prog_7_method_9_code
abbrev y_Mo_set : MethodName := ⟨"ForkPoolModel", "set", "(IIJ)J"⟩
theorem np_Mo_set : (parseMethodDescriptor y_Mo_set.desc).map (fun q => q.parameters.length) = some 3 := by decide +kernel
theorem w_Mo_set : fxcode y_Mo_set cc_Mo_set 5 (some .long) [] ∈ fxTW := fxTW_in 878 (by decide +kernel) rfl
abbrev cc_Mo_shared : ByteArray := prog_7_method_19_code
abbrev y_Mo_shared : MethodName := ⟨"ForkPoolModel", "shared", "(IJ)J"⟩
theorem np_Mo_shared : (parseMethodDescriptor y_Mo_shared.desc).map (fun q => q.parameters.length) = some 2 := by decide +kernel
theorem w_Mo_shared : fxcode y_Mo_shared cc_Mo_shared 5 (some .long) [] ∈ fxTW := fxTW_in 956 (by decide +kernel) rfl
abbrev cc_Mo_spread : ByteArray := prog_7_method_23_code
abbrev y_Mo_spread : MethodName := ⟨"ForkPoolModel", "spread", "(I)V"⟩
theorem np_Mo_spread : (parseMethodDescriptor y_Mo_spread.desc).map (fun q => q.parameters.length) = some 1 := by decide +kernel
theorem w_Mo_spread : fxcode y_Mo_spread cc_Mo_spread 7 none [] ∈ fxTW := fxTW_in 939 (by decide +kernel) rfl
abbrev cc_Mo_step : ByteArray := prog_7_method_29_code
abbrev y_Mo_step : MethodName := ⟨"ForkPoolModel", "step", "(I)I"⟩
theorem np_Mo_step : (parseMethodDescriptor y_Mo_step.desc).map (fun q => q.parameters.length) = some 1 := by decide +kernel
theorem w_Mo_step : fxcode y_Mo_step cc_Mo_step 4 (some .int) [] ∈ fxTW := fxTW_in 907 (by decide +kernel) rfl
abbrev cc_Mo_task : ByteArray := prog_7_method_35_code
abbrev y_Mo_task : MethodName := ⟨"ForkPoolModel", "task", "(III)I"⟩
theorem np_Mo_task : (parseMethodDescriptor y_Mo_task.desc).map (fun q => q.parameters.length) = some 3 := by decide +kernel
theorem w_Mo_task : fxcode y_Mo_task cc_Mo_task 5 (some .int) [] ∈ fxTW := fxTW_in 992 (by decide +kernel) rfl
abbrev cc_Mo_thrown : ByteArray := prog_7_method_2_code
abbrev y_Mo_thrown : MethodName := ⟨"ForkPoolModel", "thrown", "()I"⟩
theorem np_Mo_thrown : (parseMethodDescriptor y_Mo_thrown.desc).map (fun q => q.parameters.length) = some 0 := by decide +kernel
theorem w_Mo_thrown : fxcode y_Mo_thrown cc_Mo_thrown 1 (some .int) [] ∈ fxTW := fxTW_in 859 (by decide +kernel) rfl
abbrev cc_Mo_turns : ByteArray := prog_7_method_28_code
abbrev y_Mo_turns : MethodName := ⟨"ForkPoolModel", "turns", "()Z"⟩
theorem np_Mo_turns : (parseMethodDescriptor y_Mo_turns.desc).map (fun q => q.parameters.length) = some 0 := by decide +kernel
theorem w_Mo_turns : fxcode y_Mo_turns cc_Mo_turns 4 (some .boolean) [] ∈ fxTW := fxTW_in 911 (by decide +kernel) rfl
abbrev cc_Mo_worker : ByteArray := prog_7_method_36_code
abbrev y_Mo_worker : MethodName := ⟨"ForkPoolModel", "worker", "(II)I"⟩
theorem np_Mo_worker : (parseMethodDescriptor y_Mo_worker.desc).map (fun q => q.parameters.length) = some 2 := by decide +kernel
theorem w_Mo_worker : fxcode y_Mo_worker cc_Mo_worker 3 (some .int) [] ∈ fxTW := fxTW_in 996 (by decide +kernel) rfl
abbrev cc_Ob_checkIndex : ByteArray := prog_28_method_17_code
abbrev y_Ob_checkIndex : MethodName := ⟨"java/util/Objects", "checkIndex", "(II)I"⟩
theorem np_Ob_checkIndex : (parseMethodDescriptor y_Ob_checkIndex.desc).map (fun q => q.parameters.length) = some 2 := by decide +kernel
theorem w_Ob_checkIndex : fxcode y_Ob_checkIndex cc_Ob_checkIndex 2 (some .int) [] ∈ fxTW := fxTW_in 522 (by decide +kernel) rfl
abbrev cc_Oj_init : ByteArray := object_method_1_code
abbrev y_Oj_init : MethodName := ⟨"java/lang/Object", "<init>", "()V"⟩
theorem np_Oj_init : (parseMethodDescriptor y_Oj_init.desc).map (fun q => q.parameters.length) = some 0 := by decide +kernel
theorem w_Oj_init : fxcode y_Oj_init cc_Oj_init 1 none [] ∈ fxTW := fxTW_in 69 (by decide +kernel) rfl
abbrev cc_Pc_checkIndex : ByteArray := prog_32_method_11_code
abbrev y_Pc_checkIndex : MethodName := ⟨"jdk/internal/util/Preconditions", "checkIndex", "(IILjava/util/function/BiFunction;)I"⟩
theorem np_Pc_checkIndex : (parseMethodDescriptor y_Pc_checkIndex.desc).map (fun q => q.parameters.length) = some 3 := by decide +kernel
theorem w_Pc_checkIndex : fxcode y_Pc_checkIndex cc_Pc_checkIndex 3 (some .int) [] ∈ fxTW := fxTW_in 525 (by decide +kernel) rfl
abbrev cc_Row_addUp : ByteArray := prog_3_method_7_code
abbrev y_Row_addUp : MethodName := ⟨"ForkPool$Row", "addUp", "(IIJ)V"⟩
theorem np_Row_addUp : (parseMethodDescriptor y_Row_addUp.desc).map (fun q => q.parameters.length) = some 3 := by decide +kernel
theorem w_Row_addUp : fxcode y_Row_addUp cc_Row_addUp 8 none [] ∈ fxTW := fxTW_in 568 (by decide +kernel) rfl
abbrev cc_Row_greatestOf : ByteArray := prog_3_method_6_code
abbrev y_Row_greatestOf : MethodName := ⟨"ForkPool$Row", "greatestOf", "(II)J"⟩
theorem np_Row_greatestOf : (parseMethodDescriptor y_Row_greatestOf.desc).map (fun q => q.parameters.length) = some 2 := by decide +kernel
theorem w_Row_greatestOf : fxcode y_Row_greatestOf cc_Row_greatestOf 6 (some .long) [] ∈ fxTW := fxTW_in 564 (by decide +kernel) rfl
abbrev cc_Row_init : ByteArray := prog_3_method_1_code
abbrev y_Row_init : MethodName := ⟨"ForkPool$Row", "<init>", "()V"⟩
theorem np_Row_init : (parseMethodDescriptor y_Row_init.desc).map (fun q => q.parameters.length) = some 0 := by decide +kernel
theorem w_Row_init : fxcode y_Row_init cc_Row_init 1 none [] ∈ fxTW := fxTW_in 75 (by decide +kernel) rfl
abbrev cc_Row_isInEighths : ByteArray := prog_3_method_3_code
abbrev y_Row_isInEighths : MethodName := ⟨"ForkPool$Row", "isInEighths", "()Z"⟩
theorem np_Row_isInEighths : (parseMethodDescriptor y_Row_isInEighths.desc).map (fun q => q.parameters.length) = some 0 := by decide +kernel
theorem w_Row_isInEighths : fxcode y_Row_isInEighths cc_Row_isInEighths 1 (some .boolean) [] ∈ fxTW := fxTW_in 580 (by decide +kernel) rfl
abbrev cc_Row_kept : ByteArray := prog_3_method_4_code
abbrev y_Row_kept : MethodName := ⟨"ForkPool$Row", "kept", "(J)J"⟩
theorem np_Row_kept : (parseMethodDescriptor y_Row_kept.desc).map (fun q => q.parameters.length) = some 1 := by decide +kernel
theorem w_Row_kept : fxcode y_Row_kept cc_Row_kept 3 (some .long) [] ∈ fxTW := fxTW_in 315 (by decide +kernel) rfl
abbrev cc_Row_make : ByteArray := prog_3_method_2_code
abbrev y_Row_make : MethodName := ⟨"ForkPool$Row", "make", "(II)V"⟩
theorem np_Row_make : (parseMethodDescriptor y_Row_make.desc).map (fun q => q.parameters.length) = some 2 := by decide +kernel
theorem w_Row_make : fxcode y_Row_make cc_Row_make 4 none [] ∈ fxTW := fxTW_in 278 (by decide +kernel) rfl
abbrev cc_Row_mapAll : ByteArray := prog_3_method_9_code
abbrev y_Row_mapAll : MethodName := ⟨"ForkPool$Row", "mapAll", "(IIJJ)V"⟩
theorem np_Row_mapAll : (parseMethodDescriptor y_Row_mapAll.desc).map (fun q => q.parameters.length) = some 4 := by decide +kernel
theorem w_Row_mapAll : fxcode y_Row_mapAll cc_Row_mapAll 10 none [] ∈ fxTW := fxTW_in 576 (by decide +kernel) rfl
abbrev cc_Row_putInOrder : ByteArray := prog_3_method_8_code
abbrev y_Row_putInOrder : MethodName := ⟨"ForkPool$Row", "putInOrder", "(II)V"⟩
theorem np_Row_putInOrder : (parseMethodDescriptor y_Row_putInOrder.desc).map (fun q => q.parameters.length) = some 2 := by decide +kernel
theorem w_Row_putInOrder : fxcode y_Row_putInOrder cc_Row_putInOrder 7 none [] ∈ fxTW := fxTW_in 572 (by decide +kernel) rfl
abbrev cc_Row_shareAll : ByteArray := prog_3_method_10_code
abbrev y_Row_shareAll : MethodName := ⟨"ForkPool$Row", "shareAll", "(IIJ)I"⟩
theorem np_Row_shareAll : (parseMethodDescriptor y_Row_shareAll.desc).map (fun q => q.parameters.length) = some 3 := by decide +kernel
theorem w_Row_shareAll : fxcode y_Row_shareAll cc_Row_shareAll 10 (some .int) [] ∈ fxTW := fxTW_in 585 (by decide +kernel) rfl
abbrev cc_Row_sumOf : ByteArray := prog_3_method_5_code
abbrev y_Row_sumOf : MethodName := ⟨"ForkPool$Row", "sumOf", "(II)J"⟩
theorem np_Row_sumOf : (parseMethodDescriptor y_Row_sumOf.desc).map (fun q => q.parameters.length) = some 2 := by decide +kernel
theorem w_Row_sumOf : fxcode y_Row_sumOf cc_Row_sumOf 6 (some .long) [] ∈ fxTW := fxTW_in 559 (by decide +kernel) rfl
abbrev cc_Task_fork : ByteArray := prog_4_method_3_code
abbrev y_Task_fork : MethodName := ⟨"ForkPool$Task", "fork", "()V"⟩
theorem np_Task_fork : (parseMethodDescriptor y_Task_fork.desc).map (fun q => q.parameters.length) = some 0 := by decide +kernel
theorem w_Task_fork : fxcode y_Task_fork cc_Task_fork 2 none [] ∈ fxTW := fxTW_in 547 (by decide +kernel) rfl
abbrev cc_Task_hasForked : ByteArray := prog_4_method_2_code
abbrev y_Task_hasForked : MethodName := ⟨"ForkPool$Task", "hasForked", "()Z"⟩
theorem np_Task_hasForked : (parseMethodDescriptor y_Task_hasForked.desc).map (fun q => q.parameters.length) = some 0 := by decide +kernel
theorem w_Task_hasForked : fxcode y_Task_hasForked cc_Task_hasForked 1 (some .boolean) [] ∈ fxTW := fxTW_in 543 (by decide +kernel) rfl
abbrev cc_Task_init : ByteArray := prog_4_method_1_code
abbrev y_Task_init : MethodName := ⟨"ForkPool$Task", "<init>", "(LForkPool$Job;LForkPool$Task;II)V"⟩
theorem np_Task_init : (parseMethodDescriptor y_Task_init.desc).map (fun q => q.parameters.length) = some 4 := by decide +kernel
theorem w_Task_init : fxcode y_Task_init cc_Task_init 5 none [] ∈ fxTW := fxTW_in 388 (by decide +kernel) rfl
abbrev cc_Wk_dropTasks : ByteArray := prog_5_method_8_code
abbrev y_Wk_dropTasks : MethodName := ⟨"ForkPool$Worker", "dropTasks", "(LForkPool$Job;)V"⟩
theorem np_Wk_dropTasks : (parseMethodDescriptor y_Wk_dropTasks.desc).map (fun q => q.parameters.length) = some 1 := by decide +kernel
theorem w_Wk_dropTasks : fxcode y_Wk_dropTasks cc_Wk_dropTasks 3 none [] ∈ fxTW := fxTW_in 611 (by decide +kernel) rfl
abbrev cc_Wk_fromTop : ByteArray := prog_5_method_6_code
abbrev y_Wk_fromTop : MethodName := ⟨"ForkPool$Worker", "fromTop", "(I)LForkPool$Task;"⟩
theorem np_Wk_fromTop : (parseMethodDescriptor y_Wk_fromTop.desc).map (fun q => q.parameters.length) = some 1 := by decide +kernel
theorem w_Wk_fromTop : fxcode y_Wk_fromTop cc_Wk_fromTop 2 (some (.object "ForkPool$Task")) [] ∈ fxTW := fxTW_in 723 (by decide +kernel) rfl
abbrev cc_Wk_init : ByteArray := prog_5_method_1_code
abbrev y_Wk_init : MethodName := ⟨"ForkPool$Worker", "<init>", "(I)V"⟩
theorem np_Wk_init : (parseMethodDescriptor y_Wk_init.desc).map (fun q => q.parameters.length) = some 1 := by decide +kernel
theorem w_Wk_init : fxcode y_Wk_init cc_Wk_init 2 none [] ∈ fxTW := fxTW_in 101 (by decide +kernel) rfl
abbrev cc_Wk_putOnTop : ByteArray := prog_5_method_3_code
abbrev y_Wk_putOnTop : MethodName := ⟨"ForkPool$Worker", "putOnTop", "(LForkPool$Task;)V"⟩
theorem np_Wk_putOnTop : (parseMethodDescriptor y_Wk_putOnTop.desc).map (fun q => q.parameters.length) = some 1 := by decide +kernel
theorem w_Wk_putOnTop : fxcode y_Wk_putOnTop cc_Wk_putOnTop 2 none [] ∈ fxTW := fxTW_in 436 (by decide +kernel) rfl
abbrev cc_Wk_queueLength : ByteArray := prog_5_method_2_code
abbrev y_Wk_queueLength : MethodName := ⟨"ForkPool$Worker", "queueLength", "()I"⟩
theorem np_Wk_queueLength : (parseMethodDescriptor y_Wk_queueLength.desc).map (fun q => q.parameters.length) = some 0 := by decide +kernel
theorem w_Wk_queueLength : fxcode y_Wk_queueLength cc_Wk_queueLength 1 (some .int) [] ∈ fxTW := fxTW_in 507 (by decide +kernel) rfl
abbrev cc_Wk_queuedTasks : ByteArray := prog_5_method_7_code
abbrev y_Wk_queuedTasks : MethodName := ⟨"ForkPool$Worker", "queuedTasks", "(LForkPool$Job;)I"⟩
theorem np_Wk_queuedTasks : (parseMethodDescriptor y_Wk_queuedTasks.desc).map (fun q => q.parameters.length) = some 1 := by decide +kernel
theorem w_Wk_queuedTasks : fxcode y_Wk_queuedTasks cc_Wk_queuedTasks 4 (some .int) [] ∈ fxTW := fxTW_in 698 (by decide +kernel) rfl
abbrev cc_Wk_takeBottom : ByteArray := prog_5_method_5_code
abbrev y_Wk_takeBottom : MethodName := ⟨"ForkPool$Worker", "takeBottom", "()LForkPool$Task;"⟩
theorem np_Wk_takeBottom : (parseMethodDescriptor y_Wk_takeBottom.desc).map (fun q => q.parameters.length) = some 0 := by decide +kernel
theorem w_Wk_takeBottom : fxcode y_Wk_takeBottom cc_Wk_takeBottom 1 (some (.object "ForkPool$Task")) [] ∈ fxTW := fxTW_in 627 (by decide +kernel) rfl
abbrev cc_Wk_takeTop : ByteArray := prog_5_method_4_code
abbrev y_Wk_takeTop : MethodName := ⟨"ForkPool$Worker", "takeTop", "()LForkPool$Task;"⟩
theorem np_Wk_takeTop : (parseMethodDescriptor y_Wk_takeTop.desc).map (fun q => q.parameters.length) = some 0 := by decide +kernel
theorem w_Wk_takeTop : fxcode y_Wk_takeTop cc_Wk_takeTop 1 (some (.object "ForkPool$Task")) [] ∈ fxTW := fxTW_in 515 (by decide +kernel) rfl
theorem an_AL_7 {G : fxG} {d nL : Nat} {cc : ByteArray} {nm : String} {ret : Option FieldType} {hh : List (Nat × Nat × Nat × Nat)} {x : fxX} {Q : State → Prop} {w : fxW} {pc : Nat} {ls : List (Nat × Value)} {st : List Value} (C : fxC G d cc nL "java/util/ArrayList" nm ret hh x) {N : Nat} {j : Int} (hd : decode cc pc = .ok (.anewarray 7, 3)) (hj : j = (N : Int)) (hN : N ≤ 100000) (h9 : fxt w + 1 ≤ fxmt G) (h8 : fxu w + N ≤ fxmu G) (k : fxR G nL x Q (fx_newa w 2 N .null) (pc + 3) ls (.ref (fxt w) :: st)) : fxR G nL x Q w pc ls (zi j :: st) := r_anew (t := 2) (E := "java/lang/Object") C hd (by decide) rfl (fxTW_in 491 (by decide +kernel) rfl) (fxTW_in 484 (by decide +kernel) rfl) (by subst hj; rw [← z_nat]; exact nI_pos (by omega)) (by subst hj; rw [← z_nat]; exact nI_clamp (by omega)) (by omega) h9 h8 k
theorem lk_AL_9 : Cond.fieldLink "java/util/ArrayList" 9 "java/util/ArrayList" "elementData" "[Ljava/lang/Object;" ∈ fxTW := fxTW_in 117 (by decide +kernel) rfl
theorem g_AL_9 {G : fxG} {d nL : Nat} {cc : ByteArray} {nm : String} {ret : Option FieldType} {hh : List (Nat × Nat × Nat × Nat)} {x : fxX} {Q : State → Prop} {w : fxW} {pc : Nat} {ls : List (Nat × Value)} {st : List Value} (C : fxC G d cc nL "java/util/ArrayList" nm ret hh x) {a n : Nat} {v : Value} (hd : decode cc pc = .ok (.getfield 9, 3)) (ha : fxk w a = some (5, n)) (hv : fxf w 320 a = v) (k : fxR G nL x Q w (pc + 3) ls (v :: st)) : fxR G nL x Q w pc ls (.ref a :: st) := r_get (Cn := RAL) (T := FAL) (N := 3) (ci := 5) (k0 := 0) C hd rfl (by decide) inAL (by decide) lk_AL_9 (Or.inl rfl) ha hv k
theorem lk_AL_48 : Cond.fieldLink "java/util/ArrayList" 48 "java/util/ArrayList" "size" "I" ∈ fxTW := fxTW_in 118 (by decide +kernel) rfl
theorem g_AL_48 {G : fxG} {d nL : Nat} {cc : ByteArray} {nm : String} {ret : Option FieldType} {hh : List (Nat × Nat × Nat × Nat)} {x : fxX} {Q : State → Prop} {w : fxW} {pc : Nat} {ls : List (Nat × Value)} {st : List Value} (C : fxC G d cc nL "java/util/ArrayList" nm ret hh x) {a n : Nat} {v : Value} (hd : decode cc pc = .ok (.getfield 48, 3)) (ha : fxk w a = some (5, n)) (hv : fxf w 321 a = v) (k : fxR G nL x Q w (pc + 3) ls (v :: st)) : fxR G nL x Q w pc ls (.ref a :: st) := r_get (Cn := RAL) (T := FAL) (N := 3) (ci := 5) (k0 := 1) C hd rfl (by decide) inAL (by decide) lk_AL_48 (Or.inl rfl) ha hv k
theorem lk_AL_63 : Cond.fieldLink "java/util/ArrayList" 63 "java/util/ArrayList" "modCount" "I" ∈ fxTW := fxTW_in 120 (by decide +kernel) rfl
theorem g_AL_63 {G : fxG} {d nL : Nat} {cc : ByteArray} {nm : String} {ret : Option FieldType} {hh : List (Nat × Nat × Nat × Nat)} {x : fxX} {Q : State → Prop} {w : fxW} {pc : Nat} {ls : List (Nat × Value)} {st : List Value} (C : fxC G d cc nL "java/util/ArrayList" nm ret hh x) {a n : Nat} {v : Value} (hd : decode cc pc = .ok (.getfield 63, 3)) (ha : fxk w a = some (5, n)) (hv : fxf w 322 a = v) (k : fxR G nL x Q w (pc + 3) ls (v :: st)) : fxR G nL x Q w pc ls (.ref a :: st) := r_get (Cn := RAL) (T := FAL) (N := 3) (ci := 5) (k0 := 2) C hd rfl (by decide) inAL (by decide) lk_AL_63 (Or.inr (fxTW_in 121 (by decide +kernel) rfl)) ha hv k
theorem lm_AL_1 : Cond.methodLink "java/util/ArrayList" 1 y_AbL_init ∈ fxTW := fxTW_in 108 (by decide +kernel) rfl
theorem c_AL_1 {G : fxG} {d nL : Nat} {cc : ByteArray} {nm : String} {ret : Option FieldType} {hh : List (Nat × Nat × Nat × Nat)} {x : fxX} {Q : State → Prop} {w : fxW} {pc : Nat} {ls : List (Nat × Value)} {st : List Value} (C : fxC G d cc nL "java/util/ArrayList" nm ret hh x) {b d' : Nat} {P : Outcome → fxW → Prop} (hd : decode cc pc = .ok (.invokespecial 1, 3)) (hM : fxM G d' y_AbL_init (.ref b :: []) w P) (hdd : d' < d) (hst : (st.map fun v => v.category).sum ≤ 8) (k1 : ∀ v w', P (.returned v) w' → fxR G nL x Q w' (pc + 3) ls (v.toList ++ st)) (k2 : ∀ a w', P (.threw a) w' → fxRt G nL x Q w' pc ls st a) : fxR G nL x Q w pc ls (.ref b :: st) := r_callI (As := []) C hd lm_AL_1 rfl (fxTW_in 109 (by decide +kernel) rfl) w_AbL_init ini_java_util_AbstractList (by decide) np_AbL_init (by decide) hM hdd hst rfl k1 k2
theorem lm_AL_66 : Cond.methodLink "java/util/ArrayList" 66 y_Ar_copyOf2 ∈ fxTW := fxTW_in 461 (by decide +kernel) rfl
theorem c_AL_66 {G : fxG} {d nL : Nat} {cc : ByteArray} {nm : String} {ret : Option FieldType} {hh : List (Nat × Nat × Nat × Nat)} {x : fxX} {Q : State → Prop} {w : fxW} {pc : Nat} {ls : List (Nat × Value)} {st : List Value} (C : fxC G d cc nL "java/util/ArrayList" nm ret hh x) {d' : Nat} {a0 a1 : Value} {P : Outcome → fxW → Prop} (hd : decode cc pc = .ok (.invokestatic 66, 3)) (hM : fxM G d' y_Ar_copyOf2 [a0, a1] w P) (hdd : d' < d) (hst : (st.map fun v => v.category).sum ≤ 8) (k1 : ∀ v w', P (.returned v) w' → fxR G nL x Q w' (pc + 3) ls (v.toList ++ st)) (k2 : ∀ a w', P (.threw a) w' → fxRt G nL x Q w' pc ls st a) : fxR G nL x Q w pc ls (a1 :: a0 :: st) := r_callS (As := [a0, a1]) C hd lm_AL_66 (fxTW_in 462 (by decide +kernel) rfl) w_Ar_copyOf2 ini_java_util_Arrays (by decide) np_Ar_copyOf2 (by decide) hM hdd hst rfl k1 k2
theorem lm_AL_73 : Cond.methodLink "java/util/ArrayList" 73 y_As_newLength ∈ fxTW := fxTW_in 453 (by decide +kernel) rfl
theorem c_AL_73 {G : fxG} {d nL : Nat} {cc : ByteArray} {nm : String} {ret : Option FieldType} {hh : List (Nat × Nat × Nat × Nat)} {x : fxX} {Q : State → Prop} {w : fxW} {pc : Nat} {ls : List (Nat × Value)} {st : List Value} (C : fxC G d cc nL "java/util/ArrayList" nm ret hh x) {d' : Nat} {a0 a1 a2 : Value} {P : Outcome → fxW → Prop} (hd : decode cc pc = .ok (.invokestatic 73, 3)) (hM : fxM G d' y_As_newLength [a0, a1, a2] w P) (hdd : d' < d) (hst : (st.map fun v => v.category).sum ≤ 8) (k1 : ∀ v w', P (.returned v) w' → fxR G nL x Q w' (pc + 3) ls (v.toList ++ st)) (k2 : ∀ a w', P (.threw a) w' → fxRt G nL x Q w' pc ls st a) : fxR G nL x Q w pc ls (a2 :: a1 :: a0 :: st) := r_callS (As := [a0, a1, a2]) C hd lm_AL_73 (fxTW_in 454 (by decide +kernel) rfl) w_As_newLength ini_jdk_internal_util_ArraysSupport (by decide) np_As_newLength (by decide) hM hdd hst rfl k1 k2
theorem lm_AL_79 : Cond.methodLink "java/util/ArrayList" 79 y_Ma_maxI ∈ fxTW := fxTW_in 490 (by decide +kernel) rfl
theorem c_AL_79 {G : fxG} {d nL : Nat} {cc : ByteArray} {nm : String} {ret : Option FieldType} {hh : List (Nat × Nat × Nat × Nat)} {x : fxX} {Q : State → Prop} {w : fxW} {pc : Nat} {ls : List (Nat × Value)} {st : List Value} (C : fxC G d cc nL "java/util/ArrayList" nm ret hh x) {d' : Nat} {a0 a1 : Value} {P : Outcome → fxW → Prop} (hd : decode cc pc = .ok (.invokestatic 79, 3)) (hM : fxM G d' y_Ma_maxI [a0, a1] w P) (hdd : d' < d) (hst : (st.map fun v => v.category).sum ≤ 8) (k1 : ∀ v w', P (.returned v) w' → fxR G nL x Q w' (pc + 3) ls (v.toList ++ st)) (k2 : ∀ a w', P (.threw a) w' → fxRt G nL x Q w' pc ls st a) : fxR G nL x Q w pc ls (a1 :: a0 :: st) := r_callS (As := [a0, a1]) C hd lm_AL_79 (fxTW_in 94 (by decide +kernel) rfl) w_Ma_maxI ini_java_lang_Math (by decide) np_Ma_maxI (by decide) hM hdd hst rfl k1 k2
-- callee without code ('M', 'java/lang/System', 'arraycopy', '(Ljava/lang/Object;ILjava/lang/Object;II)V')
theorem lm_AL_118 : Cond.methodLink "java/util/ArrayList" 118 y_Ob_checkIndex ∈ fxTW := fxTW_in 520 (by decide +kernel) rfl
theorem c_AL_118 {G : fxG} {d nL : Nat} {cc : ByteArray} {nm : String} {ret : Option FieldType} {hh : List (Nat × Nat × Nat × Nat)} {x : fxX} {Q : State → Prop} {w : fxW} {pc : Nat} {ls : List (Nat × Value)} {st : List Value} (C : fxC G d cc nL "java/util/ArrayList" nm ret hh x) {d' : Nat} {a0 a1 : Value} {P : Outcome → fxW → Prop} (hd : decode cc pc = .ok (.invokestatic 118, 3)) (hM : fxM G d' y_Ob_checkIndex [a0, a1] w P) (hdd : d' < d) (hst : (st.map fun v => v.category).sum ≤ 8) (k1 : ∀ v w', P (.returned v) w' → fxR G nL x Q w' (pc + 3) ls (v.toList ++ st)) (k2 : ∀ a w', P (.threw a) w' → fxRt G nL x Q w' pc ls st a) : fxR G nL x Q w pc ls (a1 :: a0 :: st) := r_callS (As := [a0, a1]) C hd lm_AL_118 (fxTW_in 521 (by decide +kernel) rfl) w_Ob_checkIndex ini_java_util_Objects (by decide) np_Ob_checkIndex (by decide) hM hdd hst rfl k1 k2
theorem lm_AL_69 : Cond.methodLink "java/util/ArrayList" 69 y_AL_grow1 ∈ fxTW := fxTW_in 449 (by decide +kernel) rfl
theorem c_AL_69 {G : fxG} {d nL : Nat} {cc : ByteArray} {nm : String} {ret : Option FieldType} {hh : List (Nat × Nat × Nat × Nat)} {x : fxX} {Q : State → Prop} {w : fxW} {pc : Nat} {ls : List (Nat × Value)} {st : List Value} (C : fxC G d cc nL "java/util/ArrayList" nm ret hh x) {b n0 d' : Nat} {a0 : Value} {P : Outcome → fxW → Prop} (hd : decode cc pc = .ok (.invokevirtual 69, 3)) (hb9 : fxk w b = some (5, n0)) (hM : fxM G d' y_AL_grow1 (.ref b :: [a0]) w P) (hdd : d' < d) (hst : (st.map fun v => v.category).sum ≤ 8) (k1 : ∀ v w', P (.returned v) w' → fxR G nL x Q w' (pc + 3) ls (v.toList ++ st)) (k2 : ∀ a w', P (.threw a) w' → fxRt G nL x Q w' pc ls st a) : fxR G nL x Q w pc ls (a0 :: .ref b :: st) := r_callV (As := [a0]) (Cn := "java/util/ArrayList") (ci := 5) C hd lm_AL_69 (fxTW_in 451 (by decide +kernel) rfl) (fxTW_in 6 (by decide +kernel) rfl) w_AL_grow1 ini_java_util_ArrayList (by decide) np_AL_grow1 (by decide) (by decide) rfl hb9 hM hdd hst rfl k1 k2
theorem lm_AL_123 : Cond.methodLink "java/util/ArrayList" 123 y_AL_elementData ∈ fxTW := fxTW_in 616 (by decide +kernel) rfl
theorem c_AL_123 {G : fxG} {d nL : Nat} {cc : ByteArray} {nm : String} {ret : Option FieldType} {hh : List (Nat × Nat × Nat × Nat)} {x : fxX} {Q : State → Prop} {w : fxW} {pc : Nat} {ls : List (Nat × Value)} {st : List Value} (C : fxC G d cc nL "java/util/ArrayList" nm ret hh x) {b n0 d' : Nat} {a0 : Value} {P : Outcome → fxW → Prop} (hd : decode cc pc = .ok (.invokevirtual 123, 3)) (hb9 : fxk w b = some (5, n0)) (hM : fxM G d' y_AL_elementData (.ref b :: [a0]) w P) (hdd : d' < d) (hst : (st.map fun v => v.category).sum ≤ 8) (k1 : ∀ v w', P (.returned v) w' → fxR G nL x Q w' (pc + 3) ls (v.toList ++ st)) (k2 : ∀ a w', P (.threw a) w' → fxRt G nL x Q w' pc ls st a) : fxR G nL x Q w pc ls (a0 :: .ref b :: st) := r_callV (As := [a0]) (Cn := "java/util/ArrayList") (ci := 5) C hd lm_AL_123 (fxTW_in 617 (by decide +kernel) rfl) (fxTW_in 618 (by decide +kernel) rfl) w_AL_elementData ini_java_util_ArrayList (by decide) np_AL_elementData (by decide) (by decide) rfl hb9 hM hdd hst rfl k1 k2
theorem lm_AL_129 : Cond.methodLink "java/util/ArrayList" 129 y_AL_grow0 ∈ fxTW := fxTW_in 445 (by decide +kernel) rfl
theorem c_AL_129 {G : fxG} {d nL : Nat} {cc : ByteArray} {nm : String} {ret : Option FieldType} {hh : List (Nat × Nat × Nat × Nat)} {x : fxX} {Q : State → Prop} {w : fxW} {pc : Nat} {ls : List (Nat × Value)} {st : List Value} (C : fxC G d cc nL "java/util/ArrayList" nm ret hh x) {b n0 d' : Nat} {P : Outcome → fxW → Prop} (hd : decode cc pc = .ok (.invokevirtual 129, 3)) (hb9 : fxk w b = some (5, n0)) (hM : fxM G d' y_AL_grow0 (.ref b :: []) w P) (hdd : d' < d) (hst : (st.map fun v => v.category).sum ≤ 8) (k1 : ∀ v w', P (.returned v) w' → fxR G nL x Q w' (pc + 3) ls (v.toList ++ st)) (k2 : ∀ a w', P (.threw a) w' → fxRt G nL x Q w' pc ls st a) : fxR G nL x Q w pc ls (.ref b :: st) := r_callV (As := []) (Cn := "java/util/ArrayList") (ci := 5) C hd lm_AL_129 (fxTW_in 447 (by decide +kernel) rfl) (fxTW_in 5 (by decide +kernel) rfl) w_AL_grow0 ini_java_util_ArrayList (by decide) np_AL_grow0 (by decide) (by decide) rfl hb9 hM hdd hst rfl k1 k2
theorem lm_AL_131 : Cond.methodLink "java/util/ArrayList" 131 y_AL_add3 ∈ fxTW := fxTW_in 441 (by decide +kernel) rfl
theorem c_AL_131 {G : fxG} {d nL : Nat} {cc : ByteArray} {nm : String} {ret : Option FieldType} {hh : List (Nat × Nat × Nat × Nat)} {x : fxX} {Q : State → Prop} {w : fxW} {pc : Nat} {ls : List (Nat × Value)} {st : List Value} (C : fxC G d cc nL "java/util/ArrayList" nm ret hh x) {b n0 d' : Nat} {a0 a1 a2 : Value} {P : Outcome → fxW → Prop} (hd : decode cc pc = .ok (.invokevirtual 131, 3)) (hb9 : fxk w b = some (5, n0)) (hM : fxM G d' y_AL_add3 (.ref b :: [a0, a1, a2]) w P) (hdd : d' < d) (hst : (st.map fun v => v.category).sum ≤ 8) (k1 : ∀ v w', P (.returned v) w' → fxR G nL x Q w' (pc + 3) ls (v.toList ++ st)) (k2 : ∀ a w', P (.threw a) w' → fxRt G nL x Q w' pc ls st a) : fxR G nL x Q w pc ls (a2 :: a1 :: a0 :: .ref b :: st) := r_callV (As := [a0, a1, a2]) (Cn := "java/util/ArrayList") (ci := 5) C hd lm_AL_131 (fxTW_in 443 (by decide +kernel) rfl) (fxTW_in 4 (by decide +kernel) rfl) w_AL_add3 ini_java_util_ArrayList (by decide) np_AL_add3 (by decide) (by decide) rfl hb9 hM hdd hst rfl k1 k2
theorem lm_AL_144 : Cond.methodLink "java/util/ArrayList" 144 y_AL_fastRemove ∈ fxTW := fxTW_in 526 (by decide +kernel) rfl
theorem c_AL_144 {G : fxG} {d nL : Nat} {cc : ByteArray} {nm : String} {ret : Option FieldType} {hh : List (Nat × Nat × Nat × Nat)} {x : fxX} {Q : State → Prop} {w : fxW} {pc : Nat} {ls : List (Nat × Value)} {st : List Value} (C : fxC G d cc nL "java/util/ArrayList" nm ret hh x) {b n0 d' : Nat} {a0 a1 : Value} {P : Outcome → fxW → Prop} (hd : decode cc pc = .ok (.invokevirtual 144, 3)) (hb9 : fxk w b = some (5, n0)) (hM : fxM G d' y_AL_fastRemove (.ref b :: [a0, a1]) w P) (hdd : d' < d) (hst : (st.map fun v => v.category).sum ≤ 8) (k1 : ∀ v w', P (.returned v) w' → fxR G nL x Q w' (pc + 3) ls (v.toList ++ st)) (k2 : ∀ a w', P (.threw a) w' → fxRt G nL x Q w' pc ls st a) : fxR G nL x Q w pc ls (a1 :: a0 :: .ref b :: st) := r_callV (As := [a0, a1]) (Cn := "java/util/ArrayList") (ci := 5) C hd lm_AL_144 (fxTW_in 528 (by decide +kernel) rfl) (fxTW_in 8 (by decide +kernel) rfl) w_AL_fastRemove ini_java_util_ArrayList (by decide) np_AL_fastRemove (by decide) (by decide) rfl hb9 hM hdd hst rfl k1 k2
theorem p_AL_9 {G : fxG} {d nL : Nat} {cc : ByteArray} {nm : String} {ret : Option FieldType} {hh : List (Nat × Nat × Nat × Nat)} {x : fxX} {Q : State → Prop} {w : fxW} {pc : Nat} {ls : List (Nat × Value)} {st : List Value} (C : fxC G d cc nL "java/util/ArrayList" nm ret hh x) {a n : Nat} {v : Value} (hd : decode cc pc = .ok (.putfield 9, 3)) (hn : narrow (tAL 0) v = v) (hfit : fits (tAL 0) v = true) (ha : fxk w a = some (5, n)) (k : fxR G nL x Q (fx_put w 320 a v) (pc + 3) ls st) : fxR G nL x Q w pc ls (v :: .ref a :: st) := r_put (Cn := RAL) (T := FAL) (N := 3) (ci := 5) (k0 := 0) C hd rfl (by decide) inAL tAL tyAL nmAL (by decide) lk_AL_9 (Or.inl rfl) rfl (tyAL 0 (by decide)) hn hfit ha k
theorem p_AL_48 {G : fxG} {d nL : Nat} {cc : ByteArray} {nm : String} {ret : Option FieldType} {hh : List (Nat × Nat × Nat × Nat)} {x : fxX} {Q : State → Prop} {w : fxW} {pc : Nat} {ls : List (Nat × Value)} {st : List Value} (C : fxC G d cc nL "java/util/ArrayList" nm ret hh x) {a n : Nat} {v : Value} (hd : decode cc pc = .ok (.putfield 48, 3)) (hn : narrow (tAL 1) v = v) (hfit : fits (tAL 1) v = true) (ha : fxk w a = some (5, n)) (k : fxR G nL x Q (fx_put w 321 a v) (pc + 3) ls st) : fxR G nL x Q w pc ls (v :: .ref a :: st) := r_put (Cn := RAL) (T := FAL) (N := 3) (ci := 5) (k0 := 1) C hd rfl (by decide) inAL tAL tyAL nmAL (by decide) lk_AL_48 (Or.inl rfl) rfl (tyAL 1 (by decide)) hn hfit ha k
theorem p_AL_63 {G : fxG} {d nL : Nat} {cc : ByteArray} {nm : String} {ret : Option FieldType} {hh : List (Nat × Nat × Nat × Nat)} {x : fxX} {Q : State → Prop} {w : fxW} {pc : Nat} {ls : List (Nat × Value)} {st : List Value} (C : fxC G d cc nL "java/util/ArrayList" nm ret hh x) {a n : Nat} {v : Value} (hd : decode cc pc = .ok (.putfield 63, 3)) (hn : narrow (tAL 2) v = v) (hfit : fits (tAL 2) v = true) (ha : fxk w a = some (5, n)) (k : fxR G nL x Q (fx_put w 322 a v) (pc + 3) ls st) : fxR G nL x Q w pc ls (v :: .ref a :: st) := r_put (Cn := RAL) (T := FAL) (N := 3) (ci := 5) (k0 := 2) C hd rfl (by decide) inAL tAL tyAL nmAL (by decide) lk_AL_63 (Or.inr (fxTW_in 121 (by decide +kernel) rfl)) rfl (tyAL 2 (by decide)) hn hfit ha k
theorem o_AbC_1 {G : fxG} {d nL : Nat} {cc : ByteArray} {nm : String} {ret : Option FieldType} {hh : List (Nat × Nat × Nat × Nat)} {x : fxX} {Q : State → Prop} {w : fxW} {pc : Nat} {ls : List (Nat × Value)} {st : List Value} (C : fxC G d cc nL "java/util/AbstractCollection" nm ret hh x) {b : Nat} (hd : decode cc pc = .ok (.invokespecial 1, 3)) (h1 : 1 ≤ d) (hst : (st.map fun v => v.category).sum ≤ 8) (k : fxR G nL x Q w (pc + 3) ls st) : fxR G nL x Q w pc ls (.ref b :: st) := r_objInit C hd (fxTW_in 114 (by decide +kernel) rfl) (fxTW_in 68 (by decide +kernel) rfl) (fxTW_in 69 (by decide +kernel) rfl) h1 hst k
theorem lm_AbL_1 : Cond.methodLink "java/util/AbstractList" 1 y_AbC_init ∈ fxTW := fxTW_in 111 (by decide +kernel) rfl
theorem c_AbL_1 {G : fxG} {d nL : Nat} {cc : ByteArray} {nm : String} {ret : Option FieldType} {hh : List (Nat × Nat × Nat × Nat)} {x : fxX} {Q : State → Prop} {w : fxW} {pc : Nat} {ls : List (Nat × Value)} {st : List Value} (C : fxC G d cc nL "java/util/AbstractList" nm ret hh x) {b d' : Nat} {P : Outcome → fxW → Prop} (hd : decode cc pc = .ok (.invokespecial 1, 3)) (hM : fxM G d' y_AbC_init (.ref b :: []) w P) (hdd : d' < d) (hst : (st.map fun v => v.category).sum ≤ 8) (k1 : ∀ v w', P (.returned v) w' → fxR G nL x Q w' (pc + 3) ls (v.toList ++ st)) (k2 : ∀ a w', P (.threw a) w' → fxRt G nL x Q w' pc ls st a) : fxR G nL x Q w pc ls (.ref b :: st) := r_callI (As := []) C hd lm_AbL_1 rfl (fxTW_in 112 (by decide +kernel) rfl) w_AbC_init ini_java_util_AbstractCollection (by decide) np_AbC_init (by decide) hM hdd hst rfl k1 k2
-- no field word AbL 7
theorem an_Ar_2 {G : fxG} {d nL : Nat} {cc : ByteArray} {nm : String} {ret : Option FieldType} {hh : List (Nat × Nat × Nat × Nat)} {x : fxX} {Q : State → Prop} {w : fxW} {pc : Nat} {ls : List (Nat × Value)} {st : List Value} (C : fxC G d cc nL "java/util/Arrays" nm ret hh x) {N : Nat} {j : Int} (hd : decode cc pc = .ok (.anewarray 2, 3)) (hj : j = (N : Int)) (hN : N ≤ 100000) (h9 : fxt w + 1 ≤ fxmt G) (h8 : fxu w + N ≤ fxmu G) (k : fxR G nL x Q (fx_newa w 2 N .null) (pc + 3) ls (.ref (fxt w) :: st)) : fxR G nL x Q w pc ls (zi j :: st) := r_anew (t := 2) (E := "java/lang/Object") C hd (by decide) rfl (fxTW_in 485 (by decide +kernel) rfl) (fxTW_in 484 (by decide +kernel) rfl) (by subst hj; rw [← z_nat]; exact nI_pos (by omega)) (by subst hj; rw [← z_nat]; exact nI_clamp (by omega)) (by omega) h9 h8 k
-- no method word Ar 95 invokestatic
-- callee without code ('M', 'java/lang/System', 'arraycopy', '(Ljava/lang/Object;ILjava/lang/Object;II)V')
theorem lm_Ar_300 : Cond.methodLink "java/util/Arrays" 300 y_Ar_copyOf3 ∈ fxTW := fxTW_in 480 (by decide +kernel) rfl
theorem c_Ar_300 {G : fxG} {d nL : Nat} {cc : ByteArray} {nm : String} {ret : Option FieldType} {hh : List (Nat × Nat × Nat × Nat)} {x : fxX} {Q : State → Prop} {w : fxW} {pc : Nat} {ls : List (Nat × Value)} {st : List Value} (C : fxC G d cc nL "java/util/Arrays" nm ret hh x) {d' : Nat} {a0 a1 a2 : Value} {P : Outcome → fxW → Prop} (hd : decode cc pc = .ok (.invokestatic 300, 3)) (hM : fxM G d' y_Ar_copyOf3 [a0, a1, a2] w P) (hdd : d' < d) (hst : (st.map fun v => v.category).sum ≤ 8) (k1 : ∀ v w', P (.returned v) w' → fxR G nL x Q w' (pc + 3) ls (v.toList ++ st)) (k2 : ∀ a w', P (.threw a) w' → fxRt G nL x Q w' pc ls st a) : fxR G nL x Q w pc ls (a2 :: a1 :: a0 :: st) := r_callS (As := [a0, a1, a2]) C hd lm_Ar_300 (fxTW_in 481 (by decide +kernel) rfl) w_Ar_copyOf3 ini_java_util_Arrays (by decide) np_Ar_copyOf3 (by decide) hM hdd hst rfl k1 k2
theorem lm_Ar_304 : Cond.methodLink "java/util/Arrays" 304 y_Ma_minI ∈ fxTW := fxTW_in 486 (by decide +kernel) rfl
theorem c_Ar_304 {G : fxG} {d nL : Nat} {cc : ByteArray} {nm : String} {ret : Option FieldType} {hh : List (Nat × Nat × Nat × Nat)} {x : fxX} {Q : State → Prop} {w : fxW} {pc : Nat} {ls : List (Nat × Value)} {st : List Value} (C : fxC G d cc nL "java/util/Arrays" nm ret hh x) {d' : Nat} {a0 a1 : Value} {P : Outcome → fxW → Prop} (hd : decode cc pc = .ok (.invokestatic 304, 3)) (hM : fxM G d' y_Ma_minI [a0, a1] w P) (hdd : d' < d) (hst : (st.map fun v => v.category).sum ≤ 8) (k1 : ∀ v w', P (.returned v) w' → fxR G nL x Q w' (pc + 3) ls (v.toList ++ st)) (k2 : ∀ a w', P (.threw a) w' → fxRt G nL x Q w' pc ls st a) : fxR G nL x Q w pc ls (a1 :: a0 :: st) := r_callS (As := [a0, a1]) C hd lm_Ar_304 (fxTW_in 91 (by decide +kernel) rfl) w_Ma_minI ini_java_lang_Math (by decide) np_Ma_minI (by decide) hM hdd hst rfl k1 k2
-- callee without code ('M', 'java/lang/Object', 'getClass', '()Ljava/lang/Class;')
-- no method word Ar 90 invokevirtual
-- no method word As 91 invokespecial
-- no method word As 212 invokespecial
theorem lm_As_194 : Cond.methodLink "jdk/internal/util/ArraysSupport" 194 y_Ma_maxI ∈ fxTW := fxTW_in 456 (by decide +kernel) rfl
theorem c_As_194 {G : fxG} {d nL : Nat} {cc : ByteArray} {nm : String} {ret : Option FieldType} {hh : List (Nat × Nat × Nat × Nat)} {x : fxX} {Q : State → Prop} {w : fxW} {pc : Nat} {ls : List (Nat × Value)} {st : List Value} (C : fxC G d cc nL "jdk/internal/util/ArraysSupport" nm ret hh x) {d' : Nat} {a0 a1 : Value} {P : Outcome → fxW → Prop} (hd : decode cc pc = .ok (.invokestatic 194, 3)) (hM : fxM G d' y_Ma_maxI [a0, a1] w P) (hdd : d' < d) (hst : (st.map fun v => v.category).sum ≤ 8) (k1 : ∀ v w', P (.returned v) w' → fxR G nL x Q w' (pc + 3) ls (v.toList ++ st)) (k2 : ∀ a w', P (.threw a) w' → fxRt G nL x Q w' pc ls st a) : fxR G nL x Q w pc ls (a1 :: a0 :: st) := r_callS (As := [a0, a1]) C hd lm_As_194 (fxTW_in 94 (by decide +kernel) rfl) w_Ma_maxI ini_java_lang_Math (by decide) np_Ma_maxI (by decide) hM hdd hst rfl k1 k2
theorem lm_As_201 : Cond.methodLink "jdk/internal/util/ArraysSupport" 201 y_As_hugeLength ∈ fxTW := fxTW_in 458 (by decide +kernel) rfl
theorem c_As_201 {G : fxG} {d nL : Nat} {cc : ByteArray} {nm : String} {ret : Option FieldType} {hh : List (Nat × Nat × Nat × Nat)} {x : fxX} {Q : State → Prop} {w : fxW} {pc : Nat} {ls : List (Nat × Value)} {st : List Value} (C : fxC G d cc nL "jdk/internal/util/ArraysSupport" nm ret hh x) {d' : Nat} {a0 a1 : Value} {P : Outcome → fxW → Prop} (hd : decode cc pc = .ok (.invokestatic 201, 3)) (hM : fxM G d' y_As_hugeLength [a0, a1] w P) (hdd : d' < d) (hst : (st.map fun v => v.category).sum ≤ 8) (k1 : ∀ v w', P (.returned v) w' → fxR G nL x Q w' (pc + 3) ls (v.toList ++ st)) (k2 : ∀ a w', P (.threw a) w' → fxRt G nL x Q w' pc ls st a) : fxR G nL x Q w pc ls (a1 :: a0 :: st) := r_callS (As := [a0, a1]) C hd lm_As_201 (fxTW_in 459 (by decide +kernel) rfl) w_As_hugeLength ini_jdk_internal_util_ArraysSupport (by decide) np_As_hugeLength (by decide) hM hdd hst rfl k1 k2
-- no method word As 94 invokevirtual
-- no method word As 98 invokevirtual
-- no method word As 101 invokevirtual
-- new As 89
-- new As 204
theorem an_FP_9 {G : fxG} {d nL : Nat} {cc : ByteArray} {nm : String} {ret : Option FieldType} {hh : List (Nat × Nat × Nat × Nat)} {x : fxX} {Q : State → Prop} {w : fxW} {pc : Nat} {ls : List (Nat × Value)} {st : List Value} (C : fxC G d cc nL "ForkPool" nm ret hh x) {N : Nat} {j : Int} (hd : decode cc pc = .ok (.anewarray 9, 3)) (hj : j = (N : Int)) (hN : N ≤ 100000) (h9 : fxt w + 1 ≤ fxmt G) (h8 : fxu w + N ≤ fxmu G) (k : fxR G nL x Q (fx_newa w 3 N .null) (pc + 3) ls (.ref (fxt w) :: st)) : fxR G nL x Q w pc ls (zi j :: st) := r_anew (t := 3) (E := "ForkPool$Row") C hd (by decide) rfl (fxTW_in 70 (by decide +kernel) rfl) (fxTW_in 71 (by decide +kernel) rfl) (by subst hj; rw [← z_nat]; exact nI_pos (by omega)) (by subst hj; rw [← z_nat]; exact nI_clamp (by omega)) (by omega) h9 h8 k
theorem an_FP_25 {G : fxG} {d nL : Nat} {cc : ByteArray} {nm : String} {ret : Option FieldType} {hh : List (Nat × Nat × Nat × Nat)} {x : fxX} {Q : State → Prop} {w : fxW} {pc : Nat} {ls : List (Nat × Value)} {st : List Value} (C : fxC G d cc nL "ForkPool" nm ret hh x) {N : Nat} {j : Int} (hd : decode cc pc = .ok (.anewarray 25, 3)) (hj : j = (N : Int)) (hN : N ≤ 100000) (h9 : fxt w + 1 ≤ fxmt G) (h8 : fxu w + N ≤ fxmu G) (k : fxR G nL x Q (fx_newa w 4 N .null) (pc + 3) ls (.ref (fxt w) :: st)) : fxR G nL x Q w pc ls (zi j :: st) := r_anew (t := 4) (E := "ForkPool$Worker") C hd (by decide) rfl (fxTW_in 96 (by decide +kernel) rfl) (fxTW_in 97 (by decide +kernel) rfl) (by subst hj; rw [← z_nat]; exact nI_pos (by omega)) (by subst hj; rw [← z_nat]; exact nI_clamp (by omega)) (by omega) h9 h8 k
theorem an_FP_34 {G : fxG} {d nL : Nat} {cc : ByteArray} {nm : String} {ret : Option FieldType} {hh : List (Nat × Nat × Nat × Nat)} {x : fxX} {Q : State → Prop} {w : fxW} {pc : Nat} {ls : List (Nat × Value)} {st : List Value} (C : fxC G d cc nL "ForkPool" nm ret hh x) {N : Nat} {j : Int} (hd : decode cc pc = .ok (.anewarray 34, 3)) (hj : j = (N : Int)) (hN : N ≤ 100000) (h9 : fxt w + 1 ≤ fxmt G) (h8 : fxu w + N ≤ fxmu G) (k : fxR G nL x Q (fx_newa w 5 N .null) (pc + 3) ls (.ref (fxt w) :: st)) : fxR G nL x Q w pc ls (zi j :: st) := r_anew (t := 5) (E := "ForkPool$Job") C hd (by decide) rfl (fxTW_in 146 (by decide +kernel) rfl) (fxTW_in 147 (by decide +kernel) rfl) (by subst hj; rw [← z_nat]; exact nI_pos (by omega)) (by subst hj; rw [← z_nat]; exact nI_clamp (by omega)) (by omega) h9 h8 k
theorem lk_FP_11 : Cond.fieldLink "ForkPool" 11 "ForkPool" "rows" "[LForkPool$Row;" ∈ fxTW := fxTW_in 148 (by decide +kernel) rfl
theorem g_FP_11 {G : fxG} {d nL : Nat} {cc : ByteArray} {nm : String} {ret : Option FieldType} {hh : List (Nat × Nat × Nat × Nat)} {x : fxX} {Q : State → Prop} {w : fxW} {pc : Nat} {ls : List (Nat × Value)} {st : List Value} (C : fxC G d cc nL "ForkPool" nm ret hh x) {a n : Nat} {v : Value} (hd : decode cc pc = .ok (.getfield 11, 3)) (ha : fxk w a = some (0, n)) (hv : fxf w 0 a = v) (k : fxR G nL x Q w (pc + 3) ls (v :: st)) : fxR G nL x Q w pc ls (.ref a :: st) := r_get (Cn := RFP) (T := FFP) (N := 7) (ci := 0) (k0 := 0) C hd rfl (by decide) inFP (by decide) lk_FP_11 (Or.inl rfl) ha hv k
theorem lk_FP_27 : Cond.fieldLink "ForkPool" 27 "ForkPool" "workers" "[LForkPool$Worker;" ∈ fxTW := fxTW_in 149 (by decide +kernel) rfl
theorem g_FP_27 {G : fxG} {d nL : Nat} {cc : ByteArray} {nm : String} {ret : Option FieldType} {hh : List (Nat × Nat × Nat × Nat)} {x : fxX} {Q : State → Prop} {w : fxW} {pc : Nat} {ls : List (Nat × Value)} {st : List Value} (C : fxC G d cc nL "ForkPool" nm ret hh x) {a n : Nat} {v : Value} (hd : decode cc pc = .ok (.getfield 27, 3)) (ha : fxk w a = some (0, n)) (hv : fxf w 1 a = v) (k : fxR G nL x Q w (pc + 3) ls (v :: st)) : fxR G nL x Q w pc ls (.ref a :: st) := r_get (Cn := RFP) (T := FFP) (N := 7) (ci := 0) (k0 := 1) C hd rfl (by decide) inFP (by decide) lk_FP_27 (Or.inl rfl) ha hv k
theorem lk_FP_36 : Cond.fieldLink "ForkPool" 36 "ForkPool" "jobs" "[LForkPool$Job;" ∈ fxTW := fxTW_in 150 (by decide +kernel) rfl
theorem g_FP_36 {G : fxG} {d nL : Nat} {cc : ByteArray} {nm : String} {ret : Option FieldType} {hh : List (Nat × Nat × Nat × Nat)} {x : fxX} {Q : State → Prop} {w : fxW} {pc : Nat} {ls : List (Nat × Value)} {st : List Value} (C : fxC G d cc nL "ForkPool" nm ret hh x) {a n : Nat} {v : Value} (hd : decode cc pc = .ok (.getfield 36, 3)) (ha : fxk w a = some (0, n)) (hv : fxf w 2 a = v) (k : fxR G nL x Q w (pc + 3) ls (v :: st)) : fxR G nL x Q w pc ls (.ref a :: st) := r_get (Cn := RFP) (T := FFP) (N := 7) (ci := 0) (k0 := 2) C hd rfl (by decide) inFP (by decide) lk_FP_36 (Or.inl rfl) ha hv k
theorem lk_FP_40 : Cond.fieldLink "ForkPool" 40 "ForkPool" "grain" "I" ∈ fxTW := fxTW_in 154 (by decide +kernel) rfl
theorem g_FP_40 {G : fxG} {d nL : Nat} {cc : ByteArray} {nm : String} {ret : Option FieldType} {hh : List (Nat × Nat × Nat × Nat)} {x : fxX} {Q : State → Prop} {w : fxW} {pc : Nat} {ls : List (Nat × Value)} {st : List Value} (C : fxC G d cc nL "ForkPool" nm ret hh x) {a n : Nat} {v : Value} (hd : decode cc pc = .ok (.getfield 40, 3)) (ha : fxk w a = some (0, n)) (hv : fxf w 6 a = v) (k : fxR G nL x Q w (pc + 3) ls (v :: st)) : fxR G nL x Q w pc ls (.ref a :: st) := r_get (Cn := RFP) (T := FFP) (N := 7) (ci := 0) (k0 := 6) C hd rfl (by decide) inFP (by decide) lk_FP_40 (Or.inl rfl) ha hv k
theorem lk_FP_67 : Cond.fieldLinkNest "ForkPool" 67 "ForkPool$Row" "elements" "[J" "ForkPool" ∈ fxTW := fxTW_in 78 (by decide +kernel) rfl
theorem g_FP_67 {G : fxG} {d nL : Nat} {cc : ByteArray} {nm : String} {ret : Option FieldType} {hh : List (Nat × Nat × Nat × Nat)} {x : fxX} {Q : State → Prop} {w : fxW} {pc : Nat} {ls : List (Nat × Value)} {st : List Value} (C : fxC G d cc nL "ForkPool" nm ret hh x) {a n : Nat} {v : Value} (hd : decode cc pc = .ok (.getfield 67, 3)) (ha : fxk w a = some (1, n)) (hv : fxf w 64 a = v) (k : fxR G nL x Q w (pc + 3) ls (v :: st)) : fxR G nL x Q w pc ls (.ref a :: st) := r_getN (Cn := RRow) (T := FRow) (N := 3) (ci := 1) (k0 := 0) C hd rfl (by decide) inRow (by decide) lk_FP_67 (Or.inl rfl) ha hv k
theorem lk_FP_83 : Cond.fieldLink "ForkPool" 83 "ForkPool" "jobsBegun" "I" ∈ fxTW := fxTW_in 151 (by decide +kernel) rfl
theorem g_FP_83 {G : fxG} {d nL : Nat} {cc : ByteArray} {nm : String} {ret : Option FieldType} {hh : List (Nat × Nat × Nat × Nat)} {x : fxX} {Q : State → Prop} {w : fxW} {pc : Nat} {ls : List (Nat × Value)} {st : List Value} (C : fxC G d cc nL "ForkPool" nm ret hh x) {a n : Nat} {v : Value} (hd : decode cc pc = .ok (.getfield 83, 3)) (ha : fxk w a = some (0, n)) (hv : fxf w 3 a = v) (k : fxR G nL x Q w (pc + 3) ls (v :: st)) : fxR G nL x Q w pc ls (.ref a :: st) := r_get (Cn := RFP) (T := FFP) (N := 7) (ci := 0) (k0 := 3) C hd rfl (by decide) inFP (by decide) lk_FP_83 (Or.inl rfl) ha hv k
theorem lk_FP_96 : Cond.fieldLinkNest "ForkPool" 96 "ForkPool$Row" "length" "I" "ForkPool" ∈ fxTW := fxTW_in 81 (by decide +kernel) rfl
theorem g_FP_96 {G : fxG} {d nL : Nat} {cc : ByteArray} {nm : String} {ret : Option FieldType} {hh : List (Nat × Nat × Nat × Nat)} {x : fxX} {Q : State → Prop} {w : fxW} {pc : Nat} {ls : List (Nat × Value)} {st : List Value} (C : fxC G d cc nL "ForkPool" nm ret hh x) {a n : Nat} {v : Value} (hd : decode cc pc = .ok (.getfield 96, 3)) (ha : fxk w a = some (1, n)) (hv : fxf w 66 a = v) (k : fxR G nL x Q w (pc + 3) ls (v :: st)) : fxR G nL x Q w pc ls (.ref a :: st) := r_getN (Cn := RRow) (T := FRow) (N := 3) (ci := 1) (k0 := 2) C hd rfl (by decide) inRow (by decide) lk_FP_96 (Or.inl rfl) ha hv k
theorem lk_FP_106 : Cond.fieldLinkNest "ForkPool" 106 "ForkPool$Job" "number" "I" "ForkPool" ∈ fxTW := fxTW_in 347 (by decide +kernel) rfl
theorem g_FP_106 {G : fxG} {d nL : Nat} {cc : ByteArray} {nm : String} {ret : Option FieldType} {hh : List (Nat × Nat × Nat × Nat)} {x : fxX} {Q : State → Prop} {w : fxW} {pc : Nat} {ls : List (Nat × Value)} {st : List Value} (C : fxC G d cc nL "ForkPool" nm ret hh x) {a n : Nat} {v : Value} (hd : decode cc pc = .ok (.getfield 106, 3)) (ha : fxk w a = some (2, n)) (hv : fxf w 128 a = v) (k : fxR G nL x Q w (pc + 3) ls (v :: st)) : fxR G nL x Q w pc ls (.ref a :: st) := r_getN (Cn := RJob) (T := FJob) (N := 10) (ci := 2) (k0 := 0) C hd rfl (by decide) inJob (by decide) lk_FP_106 (Or.inl rfl) ha hv k
theorem lk_FP_119 : Cond.fieldLinkNest "ForkPool" 119 "ForkPool$Job" "state" "I" "ForkPool" ∈ fxTW := fxTW_in 356 (by decide +kernel) rfl
theorem g_FP_119 {G : fxG} {d nL : Nat} {cc : ByteArray} {nm : String} {ret : Option FieldType} {hh : List (Nat × Nat × Nat × Nat)} {x : fxX} {Q : State → Prop} {w : fxW} {pc : Nat} {ls : List (Nat × Value)} {st : List Value} (C : fxC G d cc nL "ForkPool" nm ret hh x) {a n : Nat} {v : Value} (hd : decode cc pc = .ok (.getfield 119, 3)) (ha : fxk w a = some (2, n)) (hv : fxf w 133 a = v) (k : fxR G nL x Q w (pc + 3) ls (v :: st)) : fxR G nL x Q w pc ls (.ref a :: st) := r_getN (Cn := RJob) (T := FJob) (N := 10) (ci := 2) (k0 := 5) C hd rfl (by decide) inJob (by decide) lk_FP_119 (Or.inl rfl) ha hv k
theorem lk_FP_128 : Cond.fieldLinkNest "ForkPool" 128 "ForkPool$Job" "kind" "I" "ForkPool" ∈ fxTW := fxTW_in 349 (by decide +kernel) rfl
theorem g_FP_128 {G : fxG} {d nL : Nat} {cc : ByteArray} {nm : String} {ret : Option FieldType} {hh : List (Nat × Nat × Nat × Nat)} {x : fxX} {Q : State → Prop} {w : fxW} {pc : Nat} {ls : List (Nat × Value)} {st : List Value} (C : fxC G d cc nL "ForkPool" nm ret hh x) {a n : Nat} {v : Value} (hd : decode cc pc = .ok (.getfield 128, 3)) (ha : fxk w a = some (2, n)) (hv : fxf w 129 a = v) (k : fxR G nL x Q w (pc + 3) ls (v :: st)) : fxR G nL x Q w pc ls (.ref a :: st) := r_getN (Cn := RJob) (T := FJob) (N := 10) (ci := 2) (k0 := 1) C hd rfl (by decide) inJob (by decide) lk_FP_128 (Or.inl rfl) ha hv k
theorem lk_FP_138 : Cond.fieldLinkNest "ForkPool" 138 "ForkPool$Job" "result" "J" "ForkPool" ∈ fxTW := fxTW_in 362 (by decide +kernel) rfl
theorem g_FP_138 {G : fxG} {d nL : Nat} {cc : ByteArray} {nm : String} {ret : Option FieldType} {hh : List (Nat × Nat × Nat × Nat)} {x : fxX} {Q : State → Prop} {w : fxW} {pc : Nat} {ls : List (Nat × Value)} {st : List Value} (C : fxC G d cc nL "ForkPool" nm ret hh x) {a n : Nat} {v : Value} (hd : decode cc pc = .ok (.getfield 138, 3)) (ha : fxk w a = some (2, n)) (hv : fxf w 137 a = v) (k : fxR G nL x Q w (pc + 3) ls (v :: st)) : fxR G nL x Q w pc ls (.ref a :: st) := r_getN (Cn := RJob) (T := FJob) (N := 10) (ci := 2) (k0 := 9) C hd rfl (by decide) inJob (by decide) lk_FP_138 (Or.inl rfl) ha hv k
theorem lk_FP_152 : Cond.fieldLinkNest "ForkPool" 152 "ForkPool$Job" "failedAt" "I" "ForkPool" ∈ fxTW := fxTW_in 358 (by decide +kernel) rfl
theorem g_FP_152 {G : fxG} {d nL : Nat} {cc : ByteArray} {nm : String} {ret : Option FieldType} {hh : List (Nat × Nat × Nat × Nat)} {x : fxX} {Q : State → Prop} {w : fxW} {pc : Nat} {ls : List (Nat × Value)} {st : List Value} (C : fxC G d cc nL "ForkPool" nm ret hh x) {a n : Nat} {v : Value} (hd : decode cc pc = .ok (.getfield 152, 3)) (ha : fxk w a = some (2, n)) (hv : fxf w 134 a = v) (k : fxR G nL x Q w (pc + 3) ls (v :: st)) : fxR G nL x Q w pc ls (.ref a :: st) := r_getN (Cn := RJob) (T := FJob) (N := 10) (ci := 2) (k0 := 6) C hd rfl (by decide) inJob (by decide) lk_FP_152 (Or.inl rfl) ha hv k
theorem lk_FP_155 : Cond.fieldLinkNest "ForkPool" 155 "ForkPool$Job" "tasksDone" "I" "ForkPool" ∈ fxTW := fxTW_in 359 (by decide +kernel) rfl
theorem g_FP_155 {G : fxG} {d nL : Nat} {cc : ByteArray} {nm : String} {ret : Option FieldType} {hh : List (Nat × Nat × Nat × Nat)} {x : fxX} {Q : State → Prop} {w : fxW} {pc : Nat} {ls : List (Nat × Value)} {st : List Value} (C : fxC G d cc nL "ForkPool" nm ret hh x) {a n : Nat} {v : Value} (hd : decode cc pc = .ok (.getfield 155, 3)) (ha : fxk w a = some (2, n)) (hv : fxf w 135 a = v) (k : fxR G nL x Q w (pc + 3) ls (v :: st)) : fxR G nL x Q w pc ls (.ref a :: st) := r_getN (Cn := RJob) (T := FJob) (N := 10) (ci := 2) (k0 := 7) C hd rfl (by decide) inJob (by decide) lk_FP_155 (Or.inl rfl) ha hv k
theorem lk_FP_177 : Cond.fieldLinkNest "ForkPool" 177 "ForkPool$Task" "job" "LForkPool$Job;" "ForkPool" ∈ fxTW := fxTW_in 392 (by decide +kernel) rfl
theorem g_FP_177 {G : fxG} {d nL : Nat} {cc : ByteArray} {nm : String} {ret : Option FieldType} {hh : List (Nat × Nat × Nat × Nat)} {x : fxX} {Q : State → Prop} {w : fxW} {pc : Nat} {ls : List (Nat × Value)} {st : List Value} (C : fxC G d cc nL "ForkPool" nm ret hh x) {a n : Nat} {v : Value} (hd : decode cc pc = .ok (.getfield 177, 3)) (ha : fxk w a = some (3, n)) (hv : fxf w 192 a = v) (k : fxR G nL x Q w (pc + 3) ls (v :: st)) : fxR G nL x Q w pc ls (.ref a :: st) := r_getN (Cn := RTask) (T := FTask) (N := 9) (ci := 3) (k0 := 0) C hd rfl (by decide) inTask (by decide) lk_FP_177 (Or.inl rfl) ha hv k
theorem lk_FP_181 : Cond.fieldLinkNest "ForkPool" 181 "ForkPool$Task" "from" "I" "ForkPool" ∈ fxTW := fxTW_in 397 (by decide +kernel) rfl
theorem g_FP_181 {G : fxG} {d nL : Nat} {cc : ByteArray} {nm : String} {ret : Option FieldType} {hh : List (Nat × Nat × Nat × Nat)} {x : fxX} {Q : State → Prop} {w : fxW} {pc : Nat} {ls : List (Nat × Value)} {st : List Value} (C : fxC G d cc nL "ForkPool" nm ret hh x) {a n : Nat} {v : Value} (hd : decode cc pc = .ok (.getfield 181, 3)) (ha : fxk w a = some (3, n)) (hv : fxf w 194 a = v) (k : fxR G nL x Q w (pc + 3) ls (v :: st)) : fxR G nL x Q w pc ls (.ref a :: st) := r_getN (Cn := RTask) (T := FTask) (N := 9) (ci := 3) (k0 := 2) C hd rfl (by decide) inTask (by decide) lk_FP_181 (Or.inl rfl) ha hv k
theorem lk_FP_184 : Cond.fieldLinkNest "ForkPool" 184 "ForkPool$Task" "to" "I" "ForkPool" ∈ fxTW := fxTW_in 400 (by decide +kernel) rfl
theorem g_FP_184 {G : fxG} {d nL : Nat} {cc : ByteArray} {nm : String} {ret : Option FieldType} {hh : List (Nat × Nat × Nat × Nat)} {x : fxX} {Q : State → Prop} {w : fxW} {pc : Nat} {ls : List (Nat × Value)} {st : List Value} (C : fxC G d cc nL "ForkPool" nm ret hh x) {a n : Nat} {v : Value} (hd : decode cc pc = .ok (.getfield 184, 3)) (ha : fxk w a = some (3, n)) (hv : fxf w 195 a = v) (k : fxR G nL x Q w (pc + 3) ls (v :: st)) : fxR G nL x Q w pc ls (.ref a :: st) := r_getN (Cn := RTask) (T := FTask) (N := 9) (ci := 3) (k0 := 3) C hd rfl (by decide) inTask (by decide) lk_FP_184 (Or.inl rfl) ha hv k
theorem lk_FP_189 : Cond.fieldLinkNest "ForkPool" 189 "ForkPool$Worker" "tasksDone" "I" "ForkPool" ∈ fxTW := fxTW_in 130 (by decide +kernel) rfl
theorem g_FP_189 {G : fxG} {d nL : Nat} {cc : ByteArray} {nm : String} {ret : Option FieldType} {hh : List (Nat × Nat × Nat × Nat)} {x : fxX} {Q : State → Prop} {w : fxW} {pc : Nat} {ls : List (Nat × Value)} {st : List Value} (C : fxC G d cc nL "ForkPool" nm ret hh x) {a n : Nat} {v : Value} (hd : decode cc pc = .ok (.getfield 189, 3)) (ha : fxk w a = some (4, n)) (hv : fxf w 257 a = v) (k : fxR G nL x Q w (pc + 3) ls (v :: st)) : fxR G nL x Q w pc ls (.ref a :: st) := r_getN (Cn := RWk) (T := FWk) (N := 5) (ci := 4) (k0 := 1) C hd rfl (by decide) inWk (by decide) lk_FP_189 (Or.inl rfl) ha hv k
theorem lk_FP_190 : Cond.fieldLinkNest "ForkPool" 190 "ForkPool$Worker" "tasksStolen" "I" "ForkPool" ∈ fxTW := fxTW_in 131 (by decide +kernel) rfl
theorem g_FP_190 {G : fxG} {d nL : Nat} {cc : ByteArray} {nm : String} {ret : Option FieldType} {hh : List (Nat × Nat × Nat × Nat)} {x : fxX} {Q : State → Prop} {w : fxW} {pc : Nat} {ls : List (Nat × Value)} {st : List Value} (C : fxC G d cc nL "ForkPool" nm ret hh x) {a n : Nat} {v : Value} (hd : decode cc pc = .ok (.getfield 190, 3)) (ha : fxk w a = some (4, n)) (hv : fxf w 258 a = v) (k : fxR G nL x Q w (pc + 3) ls (v :: st)) : fxR G nL x Q w pc ls (.ref a :: st) := r_getN (Cn := RWk) (T := FWk) (N := 5) (ci := 4) (k0 := 2) C hd rfl (by decide) inWk (by decide) lk_FP_190 (Or.inl rfl) ha hv k
theorem lk_FP_193 : Cond.fieldLinkNest "ForkPool" 193 "ForkPool$Worker" "idleSteps" "I" "ForkPool" ∈ fxTW := fxTW_in 132 (by decide +kernel) rfl
theorem g_FP_193 {G : fxG} {d nL : Nat} {cc : ByteArray} {nm : String} {ret : Option FieldType} {hh : List (Nat × Nat × Nat × Nat)} {x : fxX} {Q : State → Prop} {w : fxW} {pc : Nat} {ls : List (Nat × Value)} {st : List Value} (C : fxC G d cc nL "ForkPool" nm ret hh x) {a n : Nat} {v : Value} (hd : decode cc pc = .ok (.getfield 193, 3)) (ha : fxk w a = some (4, n)) (hv : fxf w 259 a = v) (k : fxR G nL x Q w (pc + 3) ls (v :: st)) : fxR G nL x Q w pc ls (.ref a :: st) := r_getN (Cn := RWk) (T := FWk) (N := 5) (ci := 4) (k0 := 3) C hd rfl (by decide) inWk (by decide) lk_FP_193 (Or.inl rfl) ha hv k
theorem lk_FP_196 : Cond.fieldLinkNest "ForkPool" 196 "ForkPool$Worker" "victim" "I" "ForkPool" ∈ fxTW := fxTW_in 134 (by decide +kernel) rfl
theorem g_FP_196 {G : fxG} {d nL : Nat} {cc : ByteArray} {nm : String} {ret : Option FieldType} {hh : List (Nat × Nat × Nat × Nat)} {x : fxX} {Q : State → Prop} {w : fxW} {pc : Nat} {ls : List (Nat × Value)} {st : List Value} (C : fxC G d cc nL "ForkPool" nm ret hh x) {a n : Nat} {v : Value} (hd : decode cc pc = .ok (.getfield 196, 3)) (ha : fxk w a = some (4, n)) (hv : fxf w 260 a = v) (k : fxR G nL x Q w (pc + 3) ls (v :: st)) : fxR G nL x Q w pc ls (.ref a :: st) := r_getN (Cn := RWk) (T := FWk) (N := 5) (ci := 4) (k0 := 4) C hd rfl (by decide) inWk (by decide) lk_FP_196 (Or.inl rfl) ha hv k
theorem lk_FP_203 : Cond.fieldLink "ForkPool" 203 "ForkPool" "stepsMade" "I" ∈ fxTW := fxTW_in 152 (by decide +kernel) rfl
theorem g_FP_203 {G : fxG} {d nL : Nat} {cc : ByteArray} {nm : String} {ret : Option FieldType} {hh : List (Nat × Nat × Nat × Nat)} {x : fxX} {Q : State → Prop} {w : fxW} {pc : Nat} {ls : List (Nat × Value)} {st : List Value} (C : fxC G d cc nL "ForkPool" nm ret hh x) {a n : Nat} {v : Value} (hd : decode cc pc = .ok (.getfield 203, 3)) (ha : fxk w a = some (0, n)) (hv : fxf w 4 a = v) (k : fxR G nL x Q w (pc + 3) ls (v :: st)) : fxR G nL x Q w pc ls (.ref a :: st) := r_get (Cn := RFP) (T := FFP) (N := 7) (ci := 0) (k0 := 4) C hd rfl (by decide) inFP (by decide) lk_FP_203 (Or.inl rfl) ha hv k
theorem lk_FP_206 : Cond.fieldLink "ForkPool" 206 "ForkPool" "nextWorker" "I" ∈ fxTW := fxTW_in 153 (by decide +kernel) rfl
theorem g_FP_206 {G : fxG} {d nL : Nat} {cc : ByteArray} {nm : String} {ret : Option FieldType} {hh : List (Nat × Nat × Nat × Nat)} {x : fxX} {Q : State → Prop} {w : fxW} {pc : Nat} {ls : List (Nat × Value)} {st : List Value} (C : fxC G d cc nL "ForkPool" nm ret hh x) {a n : Nat} {v : Value} (hd : decode cc pc = .ok (.getfield 206, 3)) (ha : fxk w a = some (0, n)) (hv : fxf w 5 a = v) (k : fxR G nL x Q w (pc + 3) ls (v :: st)) : fxR G nL x Q w pc ls (.ref a :: st) := r_get (Cn := RFP) (T := FFP) (N := 7) (ci := 0) (k0 := 5) C hd rfl (by decide) inFP (by decide) lk_FP_206 (Or.inl rfl) ha hv k
theorem lk_FP_215 : Cond.fieldLinkNest "ForkPool" 215 "ForkPool$Job" "row" "LForkPool$Row;" "ForkPool" ∈ fxTW := fxTW_in 352 (by decide +kernel) rfl
theorem g_FP_215 {G : fxG} {d nL : Nat} {cc : ByteArray} {nm : String} {ret : Option FieldType} {hh : List (Nat × Nat × Nat × Nat)} {x : fxX} {Q : State → Prop} {w : fxW} {pc : Nat} {ls : List (Nat × Value)} {st : List Value} (C : fxC G d cc nL "ForkPool" nm ret hh x) {a n : Nat} {v : Value} (hd : decode cc pc = .ok (.getfield 215, 3)) (ha : fxk w a = some (2, n)) (hv : fxf w 130 a = v) (k : fxR G nL x Q w (pc + 3) ls (v :: st)) : fxR G nL x Q w pc ls (.ref a :: st) := r_getN (Cn := RJob) (T := FJob) (N := 10) (ci := 2) (k0 := 2) C hd rfl (by decide) inJob (by decide) lk_FP_215 (Or.inl rfl) ha hv k
theorem lk_FP_247 : Cond.fieldLinkNest "ForkPool" 247 "ForkPool$Task" "second" "LForkPool$Task;" "ForkPool" ∈ fxTW := fxTW_in 406 (by decide +kernel) rfl
theorem g_FP_247 {G : fxG} {d nL : Nat} {cc : ByteArray} {nm : String} {ret : Option FieldType} {hh : List (Nat × Nat × Nat × Nat)} {x : fxX} {Q : State → Prop} {w : fxW} {pc : Nat} {ls : List (Nat × Value)} {st : List Value} (C : fxC G d cc nL "ForkPool" nm ret hh x) {a n : Nat} {v : Value} (hd : decode cc pc = .ok (.getfield 247, 3)) (ha : fxk w a = some (3, n)) (hv : fxf w 197 a = v) (k : fxR G nL x Q w (pc + 3) ls (v :: st)) : fxR G nL x Q w pc ls (.ref a :: st) := r_getN (Cn := RTask) (T := FTask) (N := 9) (ci := 3) (k0 := 5) C hd rfl (by decide) inTask (by decide) lk_FP_247 (Or.inl rfl) ha hv k
theorem lk_FP_251 : Cond.fieldLinkNest "ForkPool" 251 "ForkPool$Task" "first" "LForkPool$Task;" "ForkPool" ∈ fxTW := fxTW_in 403 (by decide +kernel) rfl
theorem g_FP_251 {G : fxG} {d nL : Nat} {cc : ByteArray} {nm : String} {ret : Option FieldType} {hh : List (Nat × Nat × Nat × Nat)} {x : fxX} {Q : State → Prop} {w : fxW} {pc : Nat} {ls : List (Nat × Value)} {st : List Value} (C : fxC G d cc nL "ForkPool" nm ret hh x) {a n : Nat} {v : Value} (hd : decode cc pc = .ok (.getfield 251, 3)) (ha : fxk w a = some (3, n)) (hv : fxf w 196 a = v) (k : fxR G nL x Q w (pc + 3) ls (v :: st)) : fxR G nL x Q w pc ls (.ref a :: st) := r_getN (Cn := RTask) (T := FTask) (N := 9) (ci := 3) (k0 := 4) C hd rfl (by decide) inTask (by decide) lk_FP_251 (Or.inl rfl) ha hv k
theorem lk_FP_261 : Cond.fieldLinkNest "ForkPool" 261 "ForkPool$Job" "inSecondRound" "Z" "ForkPool" ∈ fxTW := fxTW_in 361 (by decide +kernel) rfl
theorem g_FP_261 {G : fxG} {d nL : Nat} {cc : ByteArray} {nm : String} {ret : Option FieldType} {hh : List (Nat × Nat × Nat × Nat)} {x : fxX} {Q : State → Prop} {w : fxW} {pc : Nat} {ls : List (Nat × Value)} {st : List Value} (C : fxC G d cc nL "ForkPool" nm ret hh x) {a n : Nat} {v : Value} (hd : decode cc pc = .ok (.getfield 261, 3)) (ha : fxk w a = some (2, n)) (hv : fxf w 136 a = v) (k : fxR G nL x Q w (pc + 3) ls (v :: st)) : fxR G nL x Q w pc ls (.ref a :: st) := r_getN (Cn := RJob) (T := FJob) (N := 10) (ci := 2) (k0 := 8) C hd rfl (by decide) inJob (by decide) lk_FP_261 (Or.inl rfl) ha hv k
theorem lk_FP_268 : Cond.fieldLinkNest "ForkPool" 268 "ForkPool$Task" "parent" "LForkPool$Task;" "ForkPool" ∈ fxTW := fxTW_in 394 (by decide +kernel) rfl
theorem g_FP_268 {G : fxG} {d nL : Nat} {cc : ByteArray} {nm : String} {ret : Option FieldType} {hh : List (Nat × Nat × Nat × Nat)} {x : fxX} {Q : State → Prop} {w : fxW} {pc : Nat} {ls : List (Nat × Value)} {st : List Value} (C : fxC G d cc nL "ForkPool" nm ret hh x) {a n : Nat} {v : Value} (hd : decode cc pc = .ok (.getfield 268, 3)) (ha : fxk w a = some (3, n)) (hv : fxf w 193 a = v) (k : fxR G nL x Q w (pc + 3) ls (v :: st)) : fxR G nL x Q w pc ls (.ref a :: st) := r_getN (Cn := RTask) (T := FTask) (N := 9) (ci := 3) (k0 := 1) C hd rfl (by decide) inTask (by decide) lk_FP_268 (Or.inl rfl) ha hv k
theorem lk_FP_271 : Cond.fieldLinkNest "ForkPool" 271 "ForkPool$Task" "openParts" "I" "ForkPool" ∈ fxTW := fxTW_in 408 (by decide +kernel) rfl
theorem g_FP_271 {G : fxG} {d nL : Nat} {cc : ByteArray} {nm : String} {ret : Option FieldType} {hh : List (Nat × Nat × Nat × Nat)} {x : fxX} {Q : State → Prop} {w : fxW} {pc : Nat} {ls : List (Nat × Value)} {st : List Value} (C : fxC G d cc nL "ForkPool" nm ret hh x) {a n : Nat} {v : Value} (hd : decode cc pc = .ok (.getfield 271, 3)) (ha : fxk w a = some (3, n)) (hv : fxf w 198 a = v) (k : fxR G nL x Q w (pc + 3) ls (v :: st)) : fxR G nL x Q w pc ls (.ref a :: st) := r_getN (Cn := RTask) (T := FTask) (N := 9) (ci := 3) (k0 := 6) C hd rfl (by decide) inTask (by decide) lk_FP_271 (Or.inl rfl) ha hv k
theorem lk_FP_280 : Cond.fieldLinkNest "ForkPool" 280 "ForkPool$Task" "result" "J" "ForkPool" ∈ fxTW := fxTW_in 411 (by decide +kernel) rfl
theorem g_FP_280 {G : fxG} {d nL : Nat} {cc : ByteArray} {nm : String} {ret : Option FieldType} {hh : List (Nat × Nat × Nat × Nat)} {x : fxX} {Q : State → Prop} {w : fxW} {pc : Nat} {ls : List (Nat × Value)} {st : List Value} (C : fxC G d cc nL "ForkPool" nm ret hh x) {a n : Nat} {v : Value} (hd : decode cc pc = .ok (.getfield 280, 3)) (ha : fxk w a = some (3, n)) (hv : fxf w 199 a = v) (k : fxR G nL x Q w (pc + 3) ls (v :: st)) : fxR G nL x Q w pc ls (.ref a :: st) := r_getN (Cn := RTask) (T := FTask) (N := 9) (ci := 3) (k0 := 7) C hd rfl (by decide) inTask (by decide) lk_FP_280 (Or.inl rfl) ha hv k
theorem o_FP_3 {G : fxG} {d nL : Nat} {cc : ByteArray} {nm : String} {ret : Option FieldType} {hh : List (Nat × Nat × Nat × Nat)} {x : fxX} {Q : State → Prop} {w : fxW} {pc : Nat} {ls : List (Nat × Value)} {st : List Value} (C : fxC G d cc nL "ForkPool" nm ret hh x) {b : Nat} (hd : decode cc pc = .ok (.invokespecial 3, 3)) (h1 : 1 ≤ d) (hst : (st.map fun v => v.category).sum ≤ 8) (k : fxR G nL x Q w (pc + 3) ls st) : fxR G nL x Q w pc ls (.ref b :: st) := r_objInit C hd (fxTW_in 67 (by decide +kernel) rfl) (fxTW_in 68 (by decide +kernel) rfl) (fxTW_in 69 (by decide +kernel) rfl) h1 hst k
theorem lm_FP_15 : Cond.methodLinkNest "ForkPool" 15 y_Row_init "ForkPool" ∈ fxTW := fxTW_in 73 (by decide +kernel) rfl
theorem c_FP_15 {G : fxG} {d nL : Nat} {cc : ByteArray} {nm : String} {ret : Option FieldType} {hh : List (Nat × Nat × Nat × Nat)} {x : fxX} {Q : State → Prop} {w : fxW} {pc : Nat} {ls : List (Nat × Value)} {st : List Value} (C : fxC G d cc nL "ForkPool" nm ret hh x) {b d' : Nat} {P : Outcome → fxW → Prop} (hd : decode cc pc = .ok (.invokespecial 15, 3)) (hM : fxM G d' y_Row_init (.ref b :: []) w P) (hdd : d' < d) (hst : (st.map fun v => v.category).sum ≤ 8) (k1 : ∀ v w', P (.returned v) w' → fxR G nL x Q w' (pc + 3) ls (v.toList ++ st)) (k2 : ∀ a w', P (.threw a) w' → fxRt G nL x Q w' pc ls st a) : fxR G nL x Q w pc ls (.ref b :: st) := r_callIN (As := []) C hd lm_FP_15 rfl (fxTW_in 74 (by decide +kernel) rfl) w_Row_init ini_ForkPool_Row (by decide) np_Row_init (by decide) hM hdd hst rfl k1 k2
theorem lm_FP_31 : Cond.methodLink "ForkPool" 31 y_Wk_init ∈ fxTW := fxTW_in 99 (by decide +kernel) rfl
theorem c_FP_31 {G : fxG} {d nL : Nat} {cc : ByteArray} {nm : String} {ret : Option FieldType} {hh : List (Nat × Nat × Nat × Nat)} {x : fxX} {Q : State → Prop} {w : fxW} {pc : Nat} {ls : List (Nat × Value)} {st : List Value} (C : fxC G d cc nL "ForkPool" nm ret hh x) {b d' : Nat} {a0 : Value} {P : Outcome → fxW → Prop} (hd : decode cc pc = .ok (.invokespecial 31, 3)) (hM : fxM G d' y_Wk_init (.ref b :: [a0]) w P) (hdd : d' < d) (hst : (st.map fun v => v.category).sum ≤ 8) (k1 : ∀ v w', P (.returned v) w' → fxR G nL x Q w' (pc + 3) ls (v.toList ++ st)) (k2 : ∀ a w', P (.threw a) w' → fxRt G nL x Q w' pc ls st a) : fxR G nL x Q w pc ls (a0 :: .ref b :: st) := r_callI (As := [a0]) C hd lm_FP_31 rfl (fxTW_in 100 (by decide +kernel) rfl) w_Wk_init ini_ForkPool_Worker (by decide) np_Wk_init (by decide) hM hdd hst rfl k1 k2
-- callee without code ('M', 'java/lang/IllegalArgumentException', '<init>', '(Ljava/lang/String;)V')
-- callee without code ('M', 'java/lang/IllegalStateException', '<init>', '(Ljava/lang/String;)V')
theorem lm_FP_91 : Cond.methodLink "ForkPool" 91 y_Job_init ∈ fxTW := fxTW_in 342 (by decide +kernel) rfl
theorem c_FP_91 {G : fxG} {d nL : Nat} {cc : ByteArray} {nm : String} {ret : Option FieldType} {hh : List (Nat × Nat × Nat × Nat)} {x : fxX} {Q : State → Prop} {w : fxW} {pc : Nat} {ls : List (Nat × Value)} {st : List Value} (C : fxC G d cc nL "ForkPool" nm ret hh x) {b d' : Nat} {a0 a1 a2 a3 a4 : Value} {P : Outcome → fxW → Prop} (hd : decode cc pc = .ok (.invokespecial 91, 3)) (hM : fxM G d' y_Job_init (.ref b :: [a0, a1, a2, a3, a4]) w P) (hdd : d' < d) (hst : (st.map fun v => v.category).sum ≤ 8) (k1 : ∀ v w', P (.returned v) w' → fxR G nL x Q w' (pc + 3) ls (v.toList ++ st)) (k2 : ∀ a w', P (.threw a) w' → fxRt G nL x Q w' pc ls st a) : fxR G nL x Q w pc ls (a4 :: a3 :: a2 :: a1 :: a0 :: .ref b :: st) := r_callI (As := [a0, a1, a2, a3, a4]) C hd lm_FP_91 rfl (fxTW_in 343 (by decide +kernel) rfl) w_Job_init ini_ForkPool_Job (by decide) np_Job_init (by decide) hM hdd hst rfl k1 k2
theorem lm_FP_99 : Cond.methodLink "ForkPool" 99 y_Task_init ∈ fxTW := fxTW_in 386 (by decide +kernel) rfl
theorem c_FP_99 {G : fxG} {d nL : Nat} {cc : ByteArray} {nm : String} {ret : Option FieldType} {hh : List (Nat × Nat × Nat × Nat)} {x : fxX} {Q : State → Prop} {w : fxW} {pc : Nat} {ls : List (Nat × Value)} {st : List Value} (C : fxC G d cc nL "ForkPool" nm ret hh x) {b d' : Nat} {a0 a1 a2 a3 : Value} {P : Outcome → fxW → Prop} (hd : decode cc pc = .ok (.invokespecial 99, 3)) (hM : fxM G d' y_Task_init (.ref b :: [a0, a1, a2, a3]) w P) (hdd : d' < d) (hst : (st.map fun v => v.category).sum ≤ 8) (k1 : ∀ v w', P (.returned v) w' → fxR G nL x Q w' (pc + 3) ls (v.toList ++ st)) (k2 : ∀ a w', P (.threw a) w' → fxRt G nL x Q w' pc ls st a) : fxR G nL x Q w pc ls (a3 :: a2 :: a1 :: a0 :: .ref b :: st) := r_callI (As := [a0, a1, a2, a3]) C hd lm_FP_99 rfl (fxTW_in 387 (by decide +kernel) rfl) w_Task_init ini_ForkPool_Task (by decide) np_Task_init (by decide) hM hdd hst rfl k1 k2
-- callee without code ('M', 'java/lang/ArithmeticException', '<init>', '(Ljava/lang/String;)V')
-- callee without code ('M', 'java/lang/UnsupportedOperationException', '<init>', '(Ljava/lang/String;)V')
-- callee without code ('M', 'java/util/NoSuchElementException', '<init>', '(Ljava/lang/String;)V')
theorem lm_FP_16 : Cond.methodLink "ForkPool" 16 y_Ma_minI ∈ fxTW := fxTW_in 90 (by decide +kernel) rfl
theorem c_FP_16 {G : fxG} {d nL : Nat} {cc : ByteArray} {nm : String} {ret : Option FieldType} {hh : List (Nat × Nat × Nat × Nat)} {x : fxX} {Q : State → Prop} {w : fxW} {pc : Nat} {ls : List (Nat × Value)} {st : List Value} (C : fxC G d cc nL "ForkPool" nm ret hh x) {d' : Nat} {a0 a1 : Value} {P : Outcome → fxW → Prop} (hd : decode cc pc = .ok (.invokestatic 16, 3)) (hM : fxM G d' y_Ma_minI [a0, a1] w P) (hdd : d' < d) (hst : (st.map fun v => v.category).sum ≤ 8) (k1 : ∀ v w', P (.returned v) w' → fxR G nL x Q w' (pc + 3) ls (v.toList ++ st)) (k2 : ∀ a w', P (.threw a) w' → fxRt G nL x Q w' pc ls st a) : fxR G nL x Q w pc ls (a1 :: a0 :: st) := r_callS (As := [a0, a1]) C hd lm_FP_16 (fxTW_in 91 (by decide +kernel) rfl) w_Ma_minI ini_java_lang_Math (by decide) np_Ma_minI (by decide) hM hdd hst rfl k1 k2
theorem lm_FP_22 : Cond.methodLink "ForkPool" 22 y_Ma_maxI ∈ fxTW := fxTW_in 93 (by decide +kernel) rfl
theorem c_FP_22 {G : fxG} {d nL : Nat} {cc : ByteArray} {nm : String} {ret : Option FieldType} {hh : List (Nat × Nat × Nat × Nat)} {x : fxX} {Q : State → Prop} {w : fxW} {pc : Nat} {ls : List (Nat × Value)} {st : List Value} (C : fxC G d cc nL "ForkPool" nm ret hh x) {d' : Nat} {a0 a1 : Value} {P : Outcome → fxW → Prop} (hd : decode cc pc = .ok (.invokestatic 22, 3)) (hM : fxM G d' y_Ma_maxI [a0, a1] w P) (hdd : d' < d) (hst : (st.map fun v => v.category).sum ≤ 8) (k1 : ∀ v w', P (.returned v) w' → fxR G nL x Q w' (pc + 3) ls (v.toList ++ st)) (k2 : ∀ a w', P (.threw a) w' → fxRt G nL x Q w' pc ls st a) : fxR G nL x Q w pc ls (a1 :: a0 :: st) := r_callS (As := [a0, a1]) C hd lm_FP_22 (fxTW_in 94 (by decide +kernel) rfl) w_Ma_maxI ini_java_lang_Math (by decide) np_Ma_maxI (by decide) hM hdd hst rfl k1 k2
theorem lm_FP_44 : Cond.methodLink "ForkPool" 44 y_FP_isWithin ∈ fxTW := fxTW_in 182 (by decide +kernel) rfl
theorem c_FP_44 {G : fxG} {d nL : Nat} {cc : ByteArray} {nm : String} {ret : Option FieldType} {hh : List (Nat × Nat × Nat × Nat)} {x : fxX} {Q : State → Prop} {w : fxW} {pc : Nat} {ls : List (Nat × Value)} {st : List Value} (C : fxC G d cc nL "ForkPool" nm ret hh x) {d' : Nat} {a0 a1 a2 : Value} {P : Outcome → fxW → Prop} (hd : decode cc pc = .ok (.invokestatic 44, 3)) (hM : fxM G d' y_FP_isWithin [a0, a1, a2] w P) (hdd : d' < d) (hst : (st.map fun v => v.category).sum ≤ 8) (k1 : ∀ v w', P (.returned v) w' → fxR G nL x Q w' (pc + 3) ls (v.toList ++ st)) (k2 : ∀ a w', P (.threw a) w' → fxRt G nL x Q w' pc ls st a) : fxR G nL x Q w pc ls (a2 :: a1 :: a0 :: st) := r_callS (As := [a0, a1, a2]) C hd lm_FP_44 (fxTW_in 183 (by decide +kernel) rfl) w_FP_isWithin ini_ForkPool (by decide) np_FP_isWithin (by decide) hM hdd hst rfl k1 k2
theorem lm_FP_55 : Cond.methodLink "ForkPool" 55 y_FP_refuseIfBusy ∈ fxTW := fxTW_in 255 (by decide +kernel) rfl
theorem c_FP_55 {G : fxG} {d nL : Nat} {cc : ByteArray} {nm : String} {ret : Option FieldType} {hh : List (Nat × Nat × Nat × Nat)} {x : fxX} {Q : State → Prop} {w : fxW} {pc : Nat} {ls : List (Nat × Value)} {st : List Value} (C : fxC G d cc nL "ForkPool" nm ret hh x) {b n0 d' : Nat} {a0 : Value} {P : Outcome → fxW → Prop} (hd : decode cc pc = .ok (.invokevirtual 55, 3)) (hb9 : fxk w b = some (0, n0)) (hM : fxM G d' y_FP_refuseIfBusy (.ref b :: [a0]) w P) (hdd : d' < d) (hst : (st.map fun v => v.category).sum ≤ 8) (k1 : ∀ v w', P (.returned v) w' → fxR G nL x Q w' (pc + 3) ls (v.toList ++ st)) (k2 : ∀ a w', P (.threw a) w' → fxRt G nL x Q w' pc ls st a) : fxR G nL x Q w pc ls (a0 :: .ref b :: st) := r_callV (As := [a0]) (Cn := "ForkPool") (ci := 0) C hd lm_FP_55 (fxTW_in 257 (by decide +kernel) rfl) (fxTW_in 1 (by decide +kernel) rfl) w_FP_refuseIfBusy ini_ForkPool (by decide) np_FP_refuseIfBusy (by decide) (by decide) rfl hb9 hM hdd hst rfl k1 k2
theorem lm_FP_59 : Cond.methodLink "ForkPool" 59 y_Row_make ∈ fxTW := fxTW_in 275 (by decide +kernel) rfl
theorem c_FP_59 {G : fxG} {d nL : Nat} {cc : ByteArray} {nm : String} {ret : Option FieldType} {hh : List (Nat × Nat × Nat × Nat)} {x : fxX} {Q : State → Prop} {w : fxW} {pc : Nat} {ls : List (Nat × Value)} {st : List Value} (C : fxC G d cc nL "ForkPool" nm ret hh x) {b n0 d' : Nat} {a0 a1 : Value} {P : Outcome → fxW → Prop} (hd : decode cc pc = .ok (.invokevirtual 59, 3)) (hb9 : fxk w b = some (1, n0)) (hM : fxM G d' y_Row_make (.ref b :: [a0, a1]) w P) (hdd : d' < d) (hst : (st.map fun v => v.category).sum ≤ 8) (k1 : ∀ v w', P (.returned v) w' → fxR G nL x Q w' (pc + 3) ls (v.toList ++ st)) (k2 : ∀ a w', P (.threw a) w' → fxRt G nL x Q w' pc ls st a) : fxR G nL x Q w pc ls (a1 :: a0 :: .ref b :: st) := r_callV (As := [a0, a1]) (Cn := "ForkPool$Row") (ci := 1) C hd lm_FP_59 (fxTW_in 276 (by decide +kernel) rfl) (fxTW_in 277 (by decide +kernel) rfl) w_Row_make ini_ForkPool_Row (by decide) np_Row_make (by decide) (by decide) rfl hb9 hM hdd hst rfl k1 k2
theorem lm_FP_63 : Cond.methodLink "ForkPool" 63 y_FP_rowWith ∈ fxTW := fxTW_in 287 (by decide +kernel) rfl
theorem c_FP_63 {G : fxG} {d nL : Nat} {cc : ByteArray} {nm : String} {ret : Option FieldType} {hh : List (Nat × Nat × Nat × Nat)} {x : fxX} {Q : State → Prop} {w : fxW} {pc : Nat} {ls : List (Nat × Value)} {st : List Value} (C : fxC G d cc nL "ForkPool" nm ret hh x) {b n0 d' : Nat} {a0 a1 : Value} {P : Outcome → fxW → Prop} (hd : decode cc pc = .ok (.invokevirtual 63, 3)) (hb9 : fxk w b = some (0, n0)) (hM : fxM G d' y_FP_rowWith (.ref b :: [a0, a1]) w P) (hdd : d' < d) (hst : (st.map fun v => v.category).sum ≤ 8) (k1 : ∀ v w', P (.returned v) w' → fxR G nL x Q w' (pc + 3) ls (v.toList ++ st)) (k2 : ∀ a w', P (.threw a) w' → fxRt G nL x Q w' pc ls st a) : fxR G nL x Q w pc ls (a1 :: a0 :: .ref b :: st) := r_callV (As := [a0, a1]) (Cn := "ForkPool") (ci := 0) C hd lm_FP_63 (fxTW_in 289 (by decide +kernel) rfl) (fxTW_in 2 (by decide +kernel) rfl) w_FP_rowWith ini_ForkPool (by decide) np_FP_rowWith (by decide) (by decide) rfl hb9 hM hdd hst rfl k1 k2
theorem lm_FP_71 : Cond.methodLink "ForkPool" 71 y_Row_kept ∈ fxTW := fxTW_in 312 (by decide +kernel) rfl
theorem c_FP_71 {G : fxG} {d nL : Nat} {cc : ByteArray} {nm : String} {ret : Option FieldType} {hh : List (Nat × Nat × Nat × Nat)} {x : fxX} {Q : State → Prop} {w : fxW} {pc : Nat} {ls : List (Nat × Value)} {st : List Value} (C : fxC G d cc nL "ForkPool" nm ret hh x) {b n0 d' : Nat} {a0 : Value} {P : Outcome → fxW → Prop} (hd : decode cc pc = .ok (.invokevirtual 71, 3)) (hb9 : fxk w b = some (1, n0)) (hM : fxM G d' y_Row_kept (.ref b :: [a0]) w P) (hdd : d' < d) (hst : (st.map fun v => v.category).sum ≤ 8) (k1 : ∀ v w', P (.returned v) w' → fxR G nL x Q w' (pc + 3) ls (v.toList ++ st)) (k2 : ∀ a w', P (.threw a) w' → fxRt G nL x Q w' pc ls st a) : fxR G nL x Q w pc ls (a0 :: .ref b :: st) := r_callV (As := [a0]) (Cn := "ForkPool$Row") (ci := 1) C hd lm_FP_71 (fxTW_in 313 (by decide +kernel) rfl) (fxTW_in 314 (by decide +kernel) rfl) w_Row_kept ini_ForkPool_Row (by decide) np_Row_kept (by decide) (by decide) rfl hb9 hM hdd hst rfl k1 k2
theorem lm_FP_75 : Cond.methodLink "ForkPool" 75 y_FP_madeRow ∈ fxTW := fxTW_in 291 (by decide +kernel) rfl
theorem c_FP_75 {G : fxG} {d nL : Nat} {cc : ByteArray} {nm : String} {ret : Option FieldType} {hh : List (Nat × Nat × Nat × Nat)} {x : fxX} {Q : State → Prop} {w : fxW} {pc : Nat} {ls : List (Nat × Value)} {st : List Value} (C : fxC G d cc nL "ForkPool" nm ret hh x) {b n0 d' : Nat} {a0 : Value} {P : Outcome → fxW → Prop} (hd : decode cc pc = .ok (.invokevirtual 75, 3)) (hb9 : fxk w b = some (0, n0)) (hM : fxM G d' y_FP_madeRow (.ref b :: [a0]) w P) (hdd : d' < d) (hst : (st.map fun v => v.category).sum ≤ 8) (k1 : ∀ v w', P (.returned v) w' → fxR G nL x Q w' (pc + 3) ls (v.toList ++ st)) (k2 : ∀ a w', P (.threw a) w' → fxRt G nL x Q w' pc ls st a) : fxR G nL x Q w pc ls (a0 :: .ref b :: st) := r_callV (As := [a0]) (Cn := "ForkPool") (ci := 0) C hd lm_FP_75 (fxTW_in 293 (by decide +kernel) rfl) (fxTW_in 3 (by decide +kernel) rfl) w_FP_madeRow ini_ForkPool (by decide) np_FP_madeRow (by decide) (by decide) rfl hb9 hM hdd hst rfl k1 k2
theorem lm_FP_102 : Cond.methodLink "ForkPool" 102 y_Wk_putOnTop ∈ fxTW := fxTW_in 433 (by decide +kernel) rfl
theorem c_FP_102 {G : fxG} {d nL : Nat} {cc : ByteArray} {nm : String} {ret : Option FieldType} {hh : List (Nat × Nat × Nat × Nat)} {x : fxX} {Q : State → Prop} {w : fxW} {pc : Nat} {ls : List (Nat × Value)} {st : List Value} (C : fxC G d cc nL "ForkPool" nm ret hh x) {b n0 d' : Nat} {a0 : Value} {P : Outcome → fxW → Prop} (hd : decode cc pc = .ok (.invokevirtual 102, 3)) (hb9 : fxk w b = some (4, n0)) (hM : fxM G d' y_Wk_putOnTop (.ref b :: [a0]) w P) (hdd : d' < d) (hst : (st.map fun v => v.category).sum ≤ 8) (k1 : ∀ v w', P (.returned v) w' → fxR G nL x Q w' (pc + 3) ls (v.toList ++ st)) (k2 : ∀ a w', P (.threw a) w' → fxRt G nL x Q w' pc ls st a) : fxR G nL x Q w pc ls (a0 :: .ref b :: st) := r_callV (As := [a0]) (Cn := "ForkPool$Worker") (ci := 4) C hd lm_FP_102 (fxTW_in 434 (by decide +kernel) rfl) (fxTW_in 435 (by decide +kernel) rfl) w_Wk_putOnTop ini_ForkPool_Worker (by decide) np_Wk_putOnTop (by decide) (by decide) rfl hb9 hM hdd hst rfl k1 k2
theorem lm_FP_111 : Cond.methodLink "ForkPool" 111 y_FP_makeStep ∈ fxTW := fxTW_in 500 (by decide +kernel) rfl
theorem c_FP_111 {G : fxG} {d nL : Nat} {cc : ByteArray} {nm : String} {ret : Option FieldType} {hh : List (Nat × Nat × Nat × Nat)} {x : fxX} {Q : State → Prop} {w : fxW} {pc : Nat} {ls : List (Nat × Value)} {st : List Value} (C : fxC G d cc nL "ForkPool" nm ret hh x) {b n0 d' : Nat} {P : Outcome → fxW → Prop} (hd : decode cc pc = .ok (.invokevirtual 111, 3)) (hb9 : fxk w b = some (0, n0)) (hM : fxM G d' y_FP_makeStep (.ref b :: []) w P) (hdd : d' < d) (hst : (st.map fun v => v.category).sum ≤ 8) (k1 : ∀ v w', P (.returned v) w' → fxR G nL x Q w' (pc + 3) ls (v.toList ++ st)) (k2 : ∀ a w', P (.threw a) w' → fxRt G nL x Q w' pc ls st a) : fxR G nL x Q w pc ls (.ref b :: st) := r_callV (As := []) (Cn := "ForkPool") (ci := 0) C hd lm_FP_111 (fxTW_in 502 (by decide +kernel) rfl) (fxTW_in 7 (by decide +kernel) rfl) w_FP_makeStep ini_ForkPool (by decide) np_FP_makeStep (by decide) (by decide) rfl hb9 hM hdd hst rfl k1 k2
theorem lm_FP_115 : Cond.methodLink "ForkPool" 115 y_FP_begunJob ∈ fxTW := fxTW_in 636 (by decide +kernel) rfl
theorem c_FP_115 {G : fxG} {d nL : Nat} {cc : ByteArray} {nm : String} {ret : Option FieldType} {hh : List (Nat × Nat × Nat × Nat)} {x : fxX} {Q : State → Prop} {w : fxW} {pc : Nat} {ls : List (Nat × Value)} {st : List Value} (C : fxC G d cc nL "ForkPool" nm ret hh x) {b n0 d' : Nat} {a0 : Value} {P : Outcome → fxW → Prop} (hd : decode cc pc = .ok (.invokevirtual 115, 3)) (hb9 : fxk w b = some (0, n0)) (hM : fxM G d' y_FP_begunJob (.ref b :: [a0]) w P) (hdd : d' < d) (hst : (st.map fun v => v.category).sum ≤ 8) (k1 : ∀ v w', P (.returned v) w' → fxR G nL x Q w' (pc + 3) ls (v.toList ++ st)) (k2 : ∀ a w', P (.threw a) w' → fxRt G nL x Q w' pc ls st a) : fxR G nL x Q w pc ls (a0 :: .ref b :: st) := r_callV (As := [a0]) (Cn := "ForkPool") (ci := 0) C hd lm_FP_115 (fxTW_in 638 (by decide +kernel) rfl) (fxTW_in 15 (by decide +kernel) rfl) w_FP_begunJob ini_ForkPool (by decide) np_FP_begunJob (by decide) (by decide) rfl hb9 hM hdd hst rfl k1 k2
theorem lm_FP_144 : Cond.methodLink "ForkPool" 144 y_FP_queuedTasks ∈ fxTW := fxTW_in 691 (by decide +kernel) rfl
theorem c_FP_144 {G : fxG} {d nL : Nat} {cc : ByteArray} {nm : String} {ret : Option FieldType} {hh : List (Nat × Nat × Nat × Nat)} {x : fxX} {Q : State → Prop} {w : fxW} {pc : Nat} {ls : List (Nat × Value)} {st : List Value} (C : fxC G d cc nL "ForkPool" nm ret hh x) {b n0 d' : Nat} {a0 : Value} {P : Outcome → fxW → Prop} (hd : decode cc pc = .ok (.invokevirtual 144, 3)) (hb9 : fxk w b = some (0, n0)) (hM : fxM G d' y_FP_queuedTasks (.ref b :: [a0]) w P) (hdd : d' < d) (hst : (st.map fun v => v.category).sum ≤ 8) (k1 : ∀ v w', P (.returned v) w' → fxR G nL x Q w' (pc + 3) ls (v.toList ++ st)) (k2 : ∀ a w', P (.threw a) w' → fxRt G nL x Q w' pc ls st a) : fxR G nL x Q w pc ls (a0 :: .ref b :: st) := r_callV (As := [a0]) (Cn := "ForkPool") (ci := 0) C hd lm_FP_144 (fxTW_in 693 (by decide +kernel) rfl) (fxTW_in 16 (by decide +kernel) rfl) w_FP_queuedTasks ini_ForkPool (by decide) np_FP_queuedTasks (by decide) (by decide) rfl hb9 hM hdd hst rfl k1 k2
theorem lm_FP_148 : Cond.methodLink "ForkPool" 148 y_FP_fail ∈ fxTW := fxTW_in 604 (by decide +kernel) rfl
theorem c_FP_148 {G : fxG} {d nL : Nat} {cc : ByteArray} {nm : String} {ret : Option FieldType} {hh : List (Nat × Nat × Nat × Nat)} {x : fxX} {Q : State → Prop} {w : fxW} {pc : Nat} {ls : List (Nat × Value)} {st : List Value} (C : fxC G d cc nL "ForkPool" nm ret hh x) {b n0 d' : Nat} {a0 a1 : Value} {P : Outcome → fxW → Prop} (hd : decode cc pc = .ok (.invokevirtual 148, 3)) (hb9 : fxk w b = some (0, n0)) (hM : fxM G d' y_FP_fail (.ref b :: [a0, a1]) w P) (hdd : d' < d) (hst : (st.map fun v => v.category).sum ≤ 8) (k1 : ∀ v w', P (.returned v) w' → fxR G nL x Q w' (pc + 3) ls (v.toList ++ st)) (k2 : ∀ a w', P (.threw a) w' → fxRt G nL x Q w' pc ls st a) : fxR G nL x Q w pc ls (a1 :: a0 :: .ref b :: st) := r_callV (As := [a0, a1]) (Cn := "ForkPool") (ci := 0) C hd lm_FP_148 (fxTW_in 606 (by decide +kernel) rfl) (fxTW_in 13 (by decide +kernel) rfl) w_FP_fail ini_ForkPool (by decide) np_FP_fail (by decide) (by decide) rfl hb9 hM hdd hst rfl k1 k2
theorem lm_FP_160 : Cond.methodLink "ForkPool" 160 y_FP_workerAt ∈ fxTW := fxTW_in 714 (by decide +kernel) rfl
theorem c_FP_160 {G : fxG} {d nL : Nat} {cc : ByteArray} {nm : String} {ret : Option FieldType} {hh : List (Nat × Nat × Nat × Nat)} {x : fxX} {Q : State → Prop} {w : fxW} {pc : Nat} {ls : List (Nat × Value)} {st : List Value} (C : fxC G d cc nL "ForkPool" nm ret hh x) {b n0 d' : Nat} {a0 : Value} {P : Outcome → fxW → Prop} (hd : decode cc pc = .ok (.invokevirtual 160, 3)) (hb9 : fxk w b = some (0, n0)) (hM : fxM G d' y_FP_workerAt (.ref b :: [a0]) w P) (hdd : d' < d) (hst : (st.map fun v => v.category).sum ≤ 8) (k1 : ∀ v w', P (.returned v) w' → fxR G nL x Q w' (pc + 3) ls (v.toList ++ st)) (k2 : ∀ a w', P (.threw a) w' → fxRt G nL x Q w' pc ls st a) : fxR G nL x Q w pc ls (a0 :: .ref b :: st) := r_callV (As := [a0]) (Cn := "ForkPool") (ci := 0) C hd lm_FP_160 (fxTW_in 716 (by decide +kernel) rfl) (fxTW_in 17 (by decide +kernel) rfl) w_FP_workerAt ini_ForkPool (by decide) np_FP_workerAt (by decide) (by decide) rfl hb9 hM hdd hst rfl k1 k2
theorem lm_FP_164 : Cond.methodLink "ForkPool" 164 y_Wk_queueLength ∈ fxTW := fxTW_in 504 (by decide +kernel) rfl
theorem c_FP_164 {G : fxG} {d nL : Nat} {cc : ByteArray} {nm : String} {ret : Option FieldType} {hh : List (Nat × Nat × Nat × Nat)} {x : fxX} {Q : State → Prop} {w : fxW} {pc : Nat} {ls : List (Nat × Value)} {st : List Value} (C : fxC G d cc nL "ForkPool" nm ret hh x) {b n0 d' : Nat} {P : Outcome → fxW → Prop} (hd : decode cc pc = .ok (.invokevirtual 164, 3)) (hb9 : fxk w b = some (4, n0)) (hM : fxM G d' y_Wk_queueLength (.ref b :: []) w P) (hdd : d' < d) (hst : (st.map fun v => v.category).sum ≤ 8) (k1 : ∀ v w', P (.returned v) w' → fxR G nL x Q w' (pc + 3) ls (v.toList ++ st)) (k2 : ∀ a w', P (.threw a) w' → fxRt G nL x Q w' pc ls st a) : fxR G nL x Q w pc ls (.ref b :: st) := r_callV (As := []) (Cn := "ForkPool$Worker") (ci := 4) C hd lm_FP_164 (fxTW_in 505 (by decide +kernel) rfl) (fxTW_in 506 (by decide +kernel) rfl) w_Wk_queueLength ini_ForkPool_Worker (by decide) np_Wk_queueLength (by decide) (by decide) rfl hb9 hM hdd hst rfl k1 k2
theorem lm_FP_173 : Cond.methodLink "ForkPool" 173 y_Wk_fromTop ∈ fxTW := fxTW_in 720 (by decide +kernel) rfl
theorem c_FP_173 {G : fxG} {d nL : Nat} {cc : ByteArray} {nm : String} {ret : Option FieldType} {hh : List (Nat × Nat × Nat × Nat)} {x : fxX} {Q : State → Prop} {w : fxW} {pc : Nat} {ls : List (Nat × Value)} {st : List Value} (C : fxC G d cc nL "ForkPool" nm ret hh x) {b n0 d' : Nat} {a0 : Value} {P : Outcome → fxW → Prop} (hd : decode cc pc = .ok (.invokevirtual 173, 3)) (hb9 : fxk w b = some (4, n0)) (hM : fxM G d' y_Wk_fromTop (.ref b :: [a0]) w P) (hdd : d' < d) (hst : (st.map fun v => v.category).sum ≤ 8) (k1 : ∀ v w', P (.returned v) w' → fxR G nL x Q w' (pc + 3) ls (v.toList ++ st)) (k2 : ∀ a w', P (.threw a) w' → fxRt G nL x Q w' pc ls st a) : fxR G nL x Q w pc ls (a0 :: .ref b :: st) := r_callV (As := [a0]) (Cn := "ForkPool$Worker") (ci := 4) C hd lm_FP_173 (fxTW_in 721 (by decide +kernel) rfl) (fxTW_in 722 (by decide +kernel) rfl) w_Wk_fromTop ini_ForkPool_Worker (by decide) np_Wk_fromTop (by decide) (by decide) rfl hb9 hM hdd hst rfl k1 k2
theorem lm_FP_225 : Cond.methodLink "ForkPool" 225 y_Wk_takeTop ∈ fxTW := fxTW_in 512 (by decide +kernel) rfl
theorem c_FP_225 {G : fxG} {d nL : Nat} {cc : ByteArray} {nm : String} {ret : Option FieldType} {hh : List (Nat × Nat × Nat × Nat)} {x : fxX} {Q : State → Prop} {w : fxW} {pc : Nat} {ls : List (Nat × Value)} {st : List Value} (C : fxC G d cc nL "ForkPool" nm ret hh x) {b n0 d' : Nat} {P : Outcome → fxW → Prop} (hd : decode cc pc = .ok (.invokevirtual 225, 3)) (hb9 : fxk w b = some (4, n0)) (hM : fxM G d' y_Wk_takeTop (.ref b :: []) w P) (hdd : d' < d) (hst : (st.map fun v => v.category).sum ≤ 8) (k1 : ∀ v w', P (.returned v) w' → fxR G nL x Q w' (pc + 3) ls (v.toList ++ st)) (k2 : ∀ a w', P (.threw a) w' → fxRt G nL x Q w' pc ls st a) : fxR G nL x Q w pc ls (.ref b :: st) := r_callV (As := []) (Cn := "ForkPool$Worker") (ci := 4) C hd lm_FP_225 (fxTW_in 513 (by decide +kernel) rfl) (fxTW_in 514 (by decide +kernel) rfl) w_Wk_takeTop ini_ForkPool_Worker (by decide) np_Wk_takeTop (by decide) (by decide) rfl hb9 hM hdd hst rfl k1 k2
theorem lm_FP_229 : Cond.methodLink "ForkPool" 229 y_FP_perform ∈ fxTW := fxTW_in 532 (by decide +kernel) rfl
theorem c_FP_229 {G : fxG} {d nL : Nat} {cc : ByteArray} {nm : String} {ret : Option FieldType} {hh : List (Nat × Nat × Nat × Nat)} {x : fxX} {Q : State → Prop} {w : fxW} {pc : Nat} {ls : List (Nat × Value)} {st : List Value} (C : fxC G d cc nL "ForkPool" nm ret hh x) {b n0 d' : Nat} {a0 a1 : Value} {P : Outcome → fxW → Prop} (hd : decode cc pc = .ok (.invokevirtual 229, 3)) (hb9 : fxk w b = some (0, n0)) (hM : fxM G d' y_FP_perform (.ref b :: [a0, a1]) w P) (hdd : d' < d) (hst : (st.map fun v => v.category).sum ≤ 8) (k1 : ∀ v w', P (.returned v) w' → fxR G nL x Q w' (pc + 3) ls (v.toList ++ st)) (k2 : ∀ a w', P (.threw a) w' → fxRt G nL x Q w' pc ls st a) : fxR G nL x Q w pc ls (a1 :: a0 :: .ref b :: st) := r_callV (As := [a0, a1]) (Cn := "ForkPool") (ci := 0) C hd lm_FP_229 (fxTW_in 534 (by decide +kernel) rfl) (fxTW_in 9 (by decide +kernel) rfl) w_FP_perform ini_ForkPool (by decide) np_FP_perform (by decide) (by decide) rfl hb9 hM hdd hst rfl k1 k2
theorem lm_FP_233 : Cond.methodLink "ForkPool" 233 y_FP_findVictim ∈ fxTW := fxTW_in 620 (by decide +kernel) rfl
theorem c_FP_233 {G : fxG} {d nL : Nat} {cc : ByteArray} {nm : String} {ret : Option FieldType} {hh : List (Nat × Nat × Nat × Nat)} {x : fxX} {Q : State → Prop} {w : fxW} {pc : Nat} {ls : List (Nat × Value)} {st : List Value} (C : fxC G d cc nL "ForkPool" nm ret hh x) {b n0 d' : Nat} {a0 : Value} {P : Outcome → fxW → Prop} (hd : decode cc pc = .ok (.invokevirtual 233, 3)) (hb9 : fxk w b = some (0, n0)) (hM : fxM G d' y_FP_findVictim (.ref b :: [a0]) w P) (hdd : d' < d) (hst : (st.map fun v => v.category).sum ≤ 8) (k1 : ∀ v w', P (.returned v) w' → fxR G nL x Q w' (pc + 3) ls (v.toList ++ st)) (k2 : ∀ a w', P (.threw a) w' → fxRt G nL x Q w' pc ls st a) : fxR G nL x Q w pc ls (a0 :: .ref b :: st) := r_callV (As := [a0]) (Cn := "ForkPool") (ci := 0) C hd lm_FP_233 (fxTW_in 622 (by decide +kernel) rfl) (fxTW_in 14 (by decide +kernel) rfl) w_FP_findVictim ini_ForkPool (by decide) np_FP_findVictim (by decide) (by decide) rfl hb9 hM hdd hst rfl k1 k2
theorem lm_FP_237 : Cond.methodLink "ForkPool" 237 y_Wk_takeBottom ∈ fxTW := fxTW_in 624 (by decide +kernel) rfl
theorem c_FP_237 {G : fxG} {d nL : Nat} {cc : ByteArray} {nm : String} {ret : Option FieldType} {hh : List (Nat × Nat × Nat × Nat)} {x : fxX} {Q : State → Prop} {w : fxW} {pc : Nat} {ls : List (Nat × Value)} {st : List Value} (C : fxC G d cc nL "ForkPool" nm ret hh x) {b n0 d' : Nat} {P : Outcome → fxW → Prop} (hd : decode cc pc = .ok (.invokevirtual 237, 3)) (hb9 : fxk w b = some (4, n0)) (hM : fxM G d' y_Wk_takeBottom (.ref b :: []) w P) (hdd : d' < d) (hst : (st.map fun v => v.category).sum ≤ 8) (k1 : ∀ v w', P (.returned v) w' → fxR G nL x Q w' (pc + 3) ls (v.toList ++ st)) (k2 : ∀ a w', P (.threw a) w' → fxRt G nL x Q w' pc ls st a) : fxR G nL x Q w pc ls (.ref b :: st) := r_callV (As := []) (Cn := "ForkPool$Worker") (ci := 4) C hd lm_FP_237 (fxTW_in 625 (by decide +kernel) rfl) (fxTW_in 626 (by decide +kernel) rfl) w_Wk_takeBottom ini_ForkPool_Worker (by decide) np_Wk_takeBottom (by decide) (by decide) rfl hb9 hM hdd hst rfl k1 k2
theorem lm_FP_240 : Cond.methodLink "ForkPool" 240 y_FP_mustFork ∈ fxTW := fxTW_in 536 (by decide +kernel) rfl
theorem c_FP_240 {G : fxG} {d nL : Nat} {cc : ByteArray} {nm : String} {ret : Option FieldType} {hh : List (Nat × Nat × Nat × Nat)} {x : fxX} {Q : State → Prop} {w : fxW} {pc : Nat} {ls : List (Nat × Value)} {st : List Value} (C : fxC G d cc nL "ForkPool" nm ret hh x) {b n0 d' : Nat} {a0 : Value} {P : Outcome → fxW → Prop} (hd : decode cc pc = .ok (.invokevirtual 240, 3)) (hb9 : fxk w b = some (0, n0)) (hM : fxM G d' y_FP_mustFork (.ref b :: [a0]) w P) (hdd : d' < d) (hst : (st.map fun v => v.category).sum ≤ 8) (k1 : ∀ v w', P (.returned v) w' → fxR G nL x Q w' (pc + 3) ls (v.toList ++ st)) (k2 : ∀ a w', P (.threw a) w' → fxRt G nL x Q w' pc ls st a) : fxR G nL x Q w pc ls (a0 :: .ref b :: st) := r_callV (As := [a0]) (Cn := "ForkPool") (ci := 0) C hd lm_FP_240 (fxTW_in 538 (by decide +kernel) rfl) (fxTW_in 10 (by decide +kernel) rfl) w_FP_mustFork ini_ForkPool (by decide) np_FP_mustFork (by decide) (by decide) rfl hb9 hM hdd hst rfl k1 k2
theorem lm_FP_244 : Cond.methodLink "ForkPool" 244 y_Task_fork ∈ fxTW := fxTW_in 544 (by decide +kernel) rfl
theorem c_FP_244 {G : fxG} {d nL : Nat} {cc : ByteArray} {nm : String} {ret : Option FieldType} {hh : List (Nat × Nat × Nat × Nat)} {x : fxX} {Q : State → Prop} {w : fxW} {pc : Nat} {ls : List (Nat × Value)} {st : List Value} (C : fxC G d cc nL "ForkPool" nm ret hh x) {b n0 d' : Nat} {P : Outcome → fxW → Prop} (hd : decode cc pc = .ok (.invokevirtual 244, 3)) (hb9 : fxk w b = some (3, n0)) (hM : fxM G d' y_Task_fork (.ref b :: []) w P) (hdd : d' < d) (hst : (st.map fun v => v.category).sum ≤ 8) (k1 : ∀ v w', P (.returned v) w' → fxR G nL x Q w' (pc + 3) ls (v.toList ++ st)) (k2 : ∀ a w', P (.threw a) w' → fxRt G nL x Q w' pc ls st a) : fxR G nL x Q w pc ls (.ref b :: st) := r_callV (As := []) (Cn := "ForkPool$Task") (ci := 3) C hd lm_FP_244 (fxTW_in 545 (by decide +kernel) rfl) (fxTW_in 546 (by decide +kernel) rfl) w_Task_fork ini_ForkPool_Task (by decide) np_Task_fork (by decide) (by decide) rfl hb9 hM hdd hst rfl k1 k2
theorem lm_FP_254 : Cond.methodLink "ForkPool" 254 y_Job_doLeaf ∈ fxTW := fxTW_in 552 (by decide +kernel) rfl
theorem c_FP_254 {G : fxG} {d nL : Nat} {cc : ByteArray} {nm : String} {ret : Option FieldType} {hh : List (Nat × Nat × Nat × Nat)} {x : fxX} {Q : State → Prop} {w : fxW} {pc : Nat} {ls : List (Nat × Value)} {st : List Value} (C : fxC G d cc nL "ForkPool" nm ret hh x) {b n0 d' : Nat} {a0 : Value} {P : Outcome → fxW → Prop} (hd : decode cc pc = .ok (.invokevirtual 254, 3)) (hb9 : fxk w b = some (2, n0)) (hM : fxM G d' y_Job_doLeaf (.ref b :: [a0]) w P) (hdd : d' < d) (hst : (st.map fun v => v.category).sum ≤ 8) (k1 : ∀ v w', P (.returned v) w' → fxR G nL x Q w' (pc + 3) ls (v.toList ++ st)) (k2 : ∀ a w', P (.threw a) w' → fxRt G nL x Q w' pc ls st a) : fxR G nL x Q w pc ls (a0 :: .ref b :: st) := r_callV (As := [a0]) (Cn := "ForkPool$Job") (ci := 2) C hd lm_FP_254 (fxTW_in 553 (by decide +kernel) rfl) (fxTW_in 554 (by decide +kernel) rfl) w_Job_doLeaf ini_ForkPool_Job (by decide) np_Job_doLeaf (by decide) (by decide) rfl hb9 hM hdd hst rfl k1 k2
theorem lm_FP_258 : Cond.methodLink "ForkPool" 258 y_FP_endTask ∈ fxTW := fxTW_in 589 (by decide +kernel) rfl
theorem c_FP_258 {G : fxG} {d nL : Nat} {cc : ByteArray} {nm : String} {ret : Option FieldType} {hh : List (Nat × Nat × Nat × Nat)} {x : fxX} {Q : State → Prop} {w : fxW} {pc : Nat} {ls : List (Nat × Value)} {st : List Value} (C : fxC G d cc nL "ForkPool" nm ret hh x) {b n0 d' : Nat} {a0 a1 : Value} {P : Outcome → fxW → Prop} (hd : decode cc pc = .ok (.invokevirtual 258, 3)) (hb9 : fxk w b = some (0, n0)) (hM : fxM G d' y_FP_endTask (.ref b :: [a0, a1]) w P) (hdd : d' < d) (hst : (st.map fun v => v.category).sum ≤ 8) (k1 : ∀ v w', P (.returned v) w' → fxR G nL x Q w' (pc + 3) ls (v.toList ++ st)) (k2 : ∀ a w', P (.threw a) w' → fxRt G nL x Q w' pc ls st a) : fxR G nL x Q w pc ls (a1 :: a0 :: .ref b :: st) := r_callV (As := [a0, a1]) (Cn := "ForkPool") (ci := 0) C hd lm_FP_258 (fxTW_in 591 (by decide +kernel) rfl) (fxTW_in 11 (by decide +kernel) rfl) w_FP_endTask ini_ForkPool (by decide) np_FP_endTask (by decide) (by decide) rfl hb9 hM hdd hst rfl k1 k2
theorem lm_FP_265 : Cond.methodLink "ForkPool" 265 y_Task_hasForked ∈ fxTW := fxTW_in 540 (by decide +kernel) rfl
theorem c_FP_265 {G : fxG} {d nL : Nat} {cc : ByteArray} {nm : String} {ret : Option FieldType} {hh : List (Nat × Nat × Nat × Nat)} {x : fxX} {Q : State → Prop} {w : fxW} {pc : Nat} {ls : List (Nat × Value)} {st : List Value} (C : fxC G d cc nL "ForkPool" nm ret hh x) {b n0 d' : Nat} {P : Outcome → fxW → Prop} (hd : decode cc pc = .ok (.invokevirtual 265, 3)) (hb9 : fxk w b = some (3, n0)) (hM : fxM G d' y_Task_hasForked (.ref b :: []) w P) (hdd : d' < d) (hst : (st.map fun v => v.category).sum ≤ 8) (k1 : ∀ v w', P (.returned v) w' → fxR G nL x Q w' (pc + 3) ls (v.toList ++ st)) (k2 : ∀ a w', P (.threw a) w' → fxRt G nL x Q w' pc ls st a) : fxR G nL x Q w pc ls (.ref b :: st) := r_callV (As := []) (Cn := "ForkPool$Task") (ci := 3) C hd lm_FP_265 (fxTW_in 541 (by decide +kernel) rfl) (fxTW_in 542 (by decide +kernel) rfl) w_Task_hasForked ini_ForkPool_Task (by decide) np_Task_hasForked (by decide) (by decide) rfl hb9 hM hdd hst rfl k1 k2
theorem lm_FP_274 : Cond.methodLink "ForkPool" 274 y_Job_joinParts ∈ fxTW := fxTW_in 593 (by decide +kernel) rfl
theorem c_FP_274 {G : fxG} {d nL : Nat} {cc : ByteArray} {nm : String} {ret : Option FieldType} {hh : List (Nat × Nat × Nat × Nat)} {x : fxX} {Q : State → Prop} {w : fxW} {pc : Nat} {ls : List (Nat × Value)} {st : List Value} (C : fxC G d cc nL "ForkPool" nm ret hh x) {b n0 d' : Nat} {a0 : Value} {P : Outcome → fxW → Prop} (hd : decode cc pc = .ok (.invokevirtual 274, 3)) (hb9 : fxk w b = some (2, n0)) (hM : fxM G d' y_Job_joinParts (.ref b :: [a0]) w P) (hdd : d' < d) (hst : (st.map fun v => v.category).sum ≤ 8) (k1 : ∀ v w', P (.returned v) w' → fxR G nL x Q w' (pc + 3) ls (v.toList ++ st)) (k2 : ∀ a w', P (.threw a) w' → fxRt G nL x Q w' pc ls st a) : fxR G nL x Q w pc ls (a0 :: .ref b :: st) := r_callV (As := [a0]) (Cn := "ForkPool$Job") (ci := 2) C hd lm_FP_274 (fxTW_in 594 (by decide +kernel) rfl) (fxTW_in 595 (by decide +kernel) rfl) w_Job_joinParts ini_ForkPool_Job (by decide) np_Job_joinParts (by decide) (by decide) rfl hb9 hM hdd hst rfl k1 k2
theorem lm_FP_277 : Cond.methodLink "ForkPool" 277 y_FP_endRound ∈ fxTW := fxTW_in 600 (by decide +kernel) rfl
theorem c_FP_277 {G : fxG} {d nL : Nat} {cc : ByteArray} {nm : String} {ret : Option FieldType} {hh : List (Nat × Nat × Nat × Nat)} {x : fxX} {Q : State → Prop} {w : fxW} {pc : Nat} {ls : List (Nat × Value)} {st : List Value} (C : fxC G d cc nL "ForkPool" nm ret hh x) {b n0 d' : Nat} {a0 a1 : Value} {P : Outcome → fxW → Prop} (hd : decode cc pc = .ok (.invokevirtual 277, 3)) (hb9 : fxk w b = some (0, n0)) (hM : fxM G d' y_FP_endRound (.ref b :: [a0, a1]) w P) (hdd : d' < d) (hst : (st.map fun v => v.category).sum ≤ 8) (k1 : ∀ v w', P (.returned v) w' → fxR G nL x Q w' (pc + 3) ls (v.toList ++ st)) (k2 : ∀ a w', P (.threw a) w' → fxRt G nL x Q w' pc ls st a) : fxR G nL x Q w pc ls (a1 :: a0 :: .ref b :: st) := r_callV (As := [a0, a1]) (Cn := "ForkPool") (ci := 0) C hd lm_FP_277 (fxTW_in 602 (by decide +kernel) rfl) (fxTW_in 12 (by decide +kernel) rfl) w_FP_endRound ini_ForkPool (by decide) np_FP_endRound (by decide) (by decide) rfl hb9 hM hdd hst rfl k1 k2
theorem lm_FP_281 : Cond.methodLink "ForkPool" 281 y_Wk_dropTasks ∈ fxTW := fxTW_in 608 (by decide +kernel) rfl
theorem c_FP_281 {G : fxG} {d nL : Nat} {cc : ByteArray} {nm : String} {ret : Option FieldType} {hh : List (Nat × Nat × Nat × Nat)} {x : fxX} {Q : State → Prop} {w : fxW} {pc : Nat} {ls : List (Nat × Value)} {st : List Value} (C : fxC G d cc nL "ForkPool" nm ret hh x) {b n0 d' : Nat} {a0 : Value} {P : Outcome → fxW → Prop} (hd : decode cc pc = .ok (.invokevirtual 281, 3)) (hb9 : fxk w b = some (4, n0)) (hM : fxM G d' y_Wk_dropTasks (.ref b :: [a0]) w P) (hdd : d' < d) (hst : (st.map fun v => v.category).sum ≤ 8) (k1 : ∀ v w', P (.returned v) w' → fxR G nL x Q w' (pc + 3) ls (v.toList ++ st)) (k2 : ∀ a w', P (.threw a) w' → fxRt G nL x Q w' pc ls st a) : fxR G nL x Q w pc ls (a0 :: .ref b :: st) := r_callV (As := [a0]) (Cn := "ForkPool$Worker") (ci := 4) C hd lm_FP_281 (fxTW_in 609 (by decide +kernel) rfl) (fxTW_in 610 (by decide +kernel) rfl) w_Wk_dropTasks ini_ForkPool_Worker (by decide) np_Wk_dropTasks (by decide) (by decide) rfl hb9 hM hdd hst rfl k1 k2
theorem lm_FP_285 : Cond.methodLink "ForkPool" 285 y_Wk_queuedTasks ∈ fxTW := fxTW_in 695 (by decide +kernel) rfl
theorem c_FP_285 {G : fxG} {d nL : Nat} {cc : ByteArray} {nm : String} {ret : Option FieldType} {hh : List (Nat × Nat × Nat × Nat)} {x : fxX} {Q : State → Prop} {w : fxW} {pc : Nat} {ls : List (Nat × Value)} {st : List Value} (C : fxC G d cc nL "ForkPool" nm ret hh x) {b n0 d' : Nat} {a0 : Value} {P : Outcome → fxW → Prop} (hd : decode cc pc = .ok (.invokevirtual 285, 3)) (hb9 : fxk w b = some (4, n0)) (hM : fxM G d' y_Wk_queuedTasks (.ref b :: [a0]) w P) (hdd : d' < d) (hst : (st.map fun v => v.category).sum ≤ 8) (k1 : ∀ v w', P (.returned v) w' → fxR G nL x Q w' (pc + 3) ls (v.toList ++ st)) (k2 : ∀ a w', P (.threw a) w' → fxRt G nL x Q w' pc ls st a) : fxR G nL x Q w pc ls (a0 :: .ref b :: st) := r_callV (As := [a0]) (Cn := "ForkPool$Worker") (ci := 4) C hd lm_FP_285 (fxTW_in 696 (by decide +kernel) rfl) (fxTW_in 697 (by decide +kernel) rfl) w_Wk_queuedTasks ini_ForkPool_Worker (by decide) np_Wk_queuedTasks (by decide) (by decide) rfl hb9 hM hdd hst rfl k1 k2
theorem lc_FP_9 : Cond.classLink "ForkPool" 9 "ForkPool$Row" ∈ fxTW := fxTW_in 70 (by decide +kernel) rfl
theorem n_FP_9 {G : fxG} {d nL : Nat} {cc : ByteArray} {nm : String} {ret : Option FieldType} {hh : List (Nat × Nat × Nat × Nat)} {x : fxX} {Q : State → Prop} {w : fxW} {pc : Nat} {ls : List (Nat × Value)} {st : List Value} (C : fxC G d cc nL "ForkPool" nm ret hh x) (hd : decode cc pc = .ok (.new 9, 3)) (h9 : fxt w + 1 ≤ fxmt G) (h8 : fxu w + 3 ≤ fxmu G) (k : fxR G nL x Q (fx_new w 1 3 (fun k => defaultValue (tRow k))) (pc + 3) ls (.ref (fxt w) :: st)) : fxR G nL x Q w pc ls st := r_new (Cn := RRow) (T := FRow) (N := 3) (ci := 1) C hd rfl (by decide) inRow tRow tyRow lc_FP_9 (fxTW_in 72 (by decide +kernel) rfl) ini_ForkPool_Row (fun _ _ => rfl) h9 h8 k
theorem lc_FP_25 : Cond.classLink "ForkPool" 25 "ForkPool$Worker" ∈ fxTW := fxTW_in 96 (by decide +kernel) rfl
theorem n_FP_25 {G : fxG} {d nL : Nat} {cc : ByteArray} {nm : String} {ret : Option FieldType} {hh : List (Nat × Nat × Nat × Nat)} {x : fxX} {Q : State → Prop} {w : fxW} {pc : Nat} {ls : List (Nat × Value)} {st : List Value} (C : fxC G d cc nL "ForkPool" nm ret hh x) (hd : decode cc pc = .ok (.new 25, 3)) (h9 : fxt w + 1 ≤ fxmt G) (h8 : fxu w + 5 ≤ fxmu G) (k : fxR G nL x Q (fx_new w 4 5 (fun k => defaultValue (tWk k))) (pc + 3) ls (.ref (fxt w) :: st)) : fxR G nL x Q w pc ls st := r_new (Cn := RWk) (T := FWk) (N := 5) (ci := 4) C hd rfl (by decide) inWk tWk tyWk lc_FP_25 (fxTW_in 98 (by decide +kernel) rfl) ini_ForkPool_Worker (fun _ _ => rfl) h9 h8 k
theorem lc_FP_34 : Cond.classLink "ForkPool" 34 "ForkPool$Job" ∈ fxTW := fxTW_in 146 (by decide +kernel) rfl
theorem n_FP_34 {G : fxG} {d nL : Nat} {cc : ByteArray} {nm : String} {ret : Option FieldType} {hh : List (Nat × Nat × Nat × Nat)} {x : fxX} {Q : State → Prop} {w : fxW} {pc : Nat} {ls : List (Nat × Value)} {st : List Value} (C : fxC G d cc nL "ForkPool" nm ret hh x) (hd : decode cc pc = .ok (.new 34, 3)) (h9 : fxt w + 1 ≤ fxmt G) (h8 : fxu w + 10 ≤ fxmu G) (k : fxR G nL x Q (fx_new w 2 10 (fun k => defaultValue (tJob k))) (pc + 3) ls (.ref (fxt w) :: st)) : fxR G nL x Q w pc ls st := r_new (Cn := RJob) (T := FJob) (N := 10) (ci := 2) C hd rfl (by decide) inJob tJob tyJob lc_FP_34 (fxTW_in 341 (by decide +kernel) rfl) ini_ForkPool_Job (fun _ _ => rfl) h9 h8 k
theorem lc_FP_48 : Cond.classLink "ForkPool" 48 "java/lang/IllegalArgumentException" ∈ fxTW := fxTW_in 185 (by decide +kernel) rfl
theorem lc_FP_86 : Cond.classLink "ForkPool" 86 "java/lang/IllegalStateException" ∈ fxTW := fxTW_in 259 (by decide +kernel) rfl
theorem lc_FP_94 : Cond.classLink "ForkPool" 94 "ForkPool$Task" ∈ fxTW := fxTW_in 384 (by decide +kernel) rfl
theorem n_FP_94 {G : fxG} {d nL : Nat} {cc : ByteArray} {nm : String} {ret : Option FieldType} {hh : List (Nat × Nat × Nat × Nat)} {x : fxX} {Q : State → Prop} {w : fxW} {pc : Nat} {ls : List (Nat × Value)} {st : List Value} (C : fxC G d cc nL "ForkPool" nm ret hh x) (hd : decode cc pc = .ok (.new 94, 3)) (h9 : fxt w + 1 ≤ fxmt G) (h8 : fxu w + 9 ≤ fxmu G) (k : fxR G nL x Q (fx_new w 3 9 (fun k => defaultValue (tTask k))) (pc + 3) ls (.ref (fxt w) :: st)) : fxR G nL x Q w pc ls st := r_new (Cn := RTask) (T := FTask) (N := 9) (ci := 3) C hd rfl (by decide) inTask tTask tyTask lc_FP_94 (fxTW_in 385 (by decide +kernel) rfl) ini_ForkPool_Task (fun _ _ => rfl) h9 h8 k
theorem lc_FP_123 : Cond.classLink "ForkPool" 123 "java/lang/ArithmeticException" ∈ fxTW := fxTW_in 642 (by decide +kernel) rfl
theorem lc_FP_131 : Cond.classLink "ForkPool" 131 "java/lang/UnsupportedOperationException" ∈ fxTW := fxTW_in 666 (by decide +kernel) rfl
theorem lc_FP_168 : Cond.classLink "ForkPool" 168 "java/util/NoSuchElementException" ∈ fxTW := fxTW_in 295 (by decide +kernel) rfl
theorem p_FP_11F {G : fxG} {d nL : Nat} {cc : ByteArray} {nm : String} {ret : Option FieldType} {hh : List (Nat × Nat × Nat × Nat)} {x : fxX} {Q : State → Prop} {w : fxW} {pc : Nat} {ls : List (Nat × Value)} {st : List Value} (C : fxC G d cc nL "ForkPool" "<init>" ret hh x) {a n : Nat} {v : Value} (hd : decode cc pc = .ok (.putfield 11, 3)) (hn : narrow (tFP 0) v = v) (hfit : fits (tFP 0) v = true) (ha : fxk w a = some (0, n)) (k : fxR G nL x Q (fx_put w 0 a v) (pc + 3) ls st) : fxR G nL x Q w pc ls (v :: .ref a :: st) := r_putF (Cn := RFP) (T := FFP) (N := 7) (ci := 0) (k0 := 0) C hd rfl (by decide) inFP tFP tyFP nmFP (by decide) lk_FP_11 (Or.inl rfl) rfl rfl (tyFP 0 (by decide)) hn hfit ha k
theorem p_FP_27F {G : fxG} {d nL : Nat} {cc : ByteArray} {nm : String} {ret : Option FieldType} {hh : List (Nat × Nat × Nat × Nat)} {x : fxX} {Q : State → Prop} {w : fxW} {pc : Nat} {ls : List (Nat × Value)} {st : List Value} (C : fxC G d cc nL "ForkPool" "<init>" ret hh x) {a n : Nat} {v : Value} (hd : decode cc pc = .ok (.putfield 27, 3)) (hn : narrow (tFP 1) v = v) (hfit : fits (tFP 1) v = true) (ha : fxk w a = some (0, n)) (k : fxR G nL x Q (fx_put w 1 a v) (pc + 3) ls st) : fxR G nL x Q w pc ls (v :: .ref a :: st) := r_putF (Cn := RFP) (T := FFP) (N := 7) (ci := 0) (k0 := 1) C hd rfl (by decide) inFP tFP tyFP nmFP (by decide) lk_FP_27 (Or.inl rfl) rfl rfl (tyFP 1 (by decide)) hn hfit ha k
theorem p_FP_36F {G : fxG} {d nL : Nat} {cc : ByteArray} {nm : String} {ret : Option FieldType} {hh : List (Nat × Nat × Nat × Nat)} {x : fxX} {Q : State → Prop} {w : fxW} {pc : Nat} {ls : List (Nat × Value)} {st : List Value} (C : fxC G d cc nL "ForkPool" "<init>" ret hh x) {a n : Nat} {v : Value} (hd : decode cc pc = .ok (.putfield 36, 3)) (hn : narrow (tFP 2) v = v) (hfit : fits (tFP 2) v = true) (ha : fxk w a = some (0, n)) (k : fxR G nL x Q (fx_put w 2 a v) (pc + 3) ls st) : fxR G nL x Q w pc ls (v :: .ref a :: st) := r_putF (Cn := RFP) (T := FFP) (N := 7) (ci := 0) (k0 := 2) C hd rfl (by decide) inFP tFP tyFP nmFP (by decide) lk_FP_36 (Or.inl rfl) rfl rfl (tyFP 2 (by decide)) hn hfit ha k
theorem p_FP_40 {G : fxG} {d nL : Nat} {cc : ByteArray} {nm : String} {ret : Option FieldType} {hh : List (Nat × Nat × Nat × Nat)} {x : fxX} {Q : State → Prop} {w : fxW} {pc : Nat} {ls : List (Nat × Value)} {st : List Value} (C : fxC G d cc nL "ForkPool" nm ret hh x) {a n : Nat} {v : Value} (hd : decode cc pc = .ok (.putfield 40, 3)) (hn : narrow (tFP 6) v = v) (hfit : fits (tFP 6) v = true) (ha : fxk w a = some (0, n)) (k : fxR G nL x Q (fx_put w 6 a v) (pc + 3) ls st) : fxR G nL x Q w pc ls (v :: .ref a :: st) := r_put (Cn := RFP) (T := FFP) (N := 7) (ci := 0) (k0 := 6) C hd rfl (by decide) inFP tFP tyFP nmFP (by decide) lk_FP_40 (Or.inl rfl) rfl (tyFP 6 (by decide)) hn hfit ha k
theorem p_FP_83 {G : fxG} {d nL : Nat} {cc : ByteArray} {nm : String} {ret : Option FieldType} {hh : List (Nat × Nat × Nat × Nat)} {x : fxX} {Q : State → Prop} {w : fxW} {pc : Nat} {ls : List (Nat × Value)} {st : List Value} (C : fxC G d cc nL "ForkPool" nm ret hh x) {a n : Nat} {v : Value} (hd : decode cc pc = .ok (.putfield 83, 3)) (hn : narrow (tFP 3) v = v) (hfit : fits (tFP 3) v = true) (ha : fxk w a = some (0, n)) (k : fxR G nL x Q (fx_put w 3 a v) (pc + 3) ls st) : fxR G nL x Q w pc ls (v :: .ref a :: st) := r_put (Cn := RFP) (T := FFP) (N := 7) (ci := 0) (k0 := 3) C hd rfl (by decide) inFP tFP tyFP nmFP (by decide) lk_FP_83 (Or.inl rfl) rfl (tyFP 3 (by decide)) hn hfit ha k
theorem p_FP_119 {G : fxG} {d nL : Nat} {cc : ByteArray} {nm : String} {ret : Option FieldType} {hh : List (Nat × Nat × Nat × Nat)} {x : fxX} {Q : State → Prop} {w : fxW} {pc : Nat} {ls : List (Nat × Value)} {st : List Value} (C : fxC G d cc nL "ForkPool" nm ret hh x) {a n : Nat} {v : Value} (hd : decode cc pc = .ok (.putfield 119, 3)) (hn : narrow (tJob 5) v = v) (hfit : fits (tJob 5) v = true) (ha : fxk w a = some (2, n)) (k : fxR G nL x Q (fx_put w 133 a v) (pc + 3) ls st) : fxR G nL x Q w pc ls (v :: .ref a :: st) := r_putN (Cn := RJob) (T := FJob) (N := 10) (ci := 2) (k0 := 5) C hd rfl (by decide) inJob tJob tyJob nmJob (by decide) lk_FP_119 (Or.inl rfl) rfl (tyJob 5 (by decide)) hn hfit ha k
theorem p_FP_138 {G : fxG} {d nL : Nat} {cc : ByteArray} {nm : String} {ret : Option FieldType} {hh : List (Nat × Nat × Nat × Nat)} {x : fxX} {Q : State → Prop} {w : fxW} {pc : Nat} {ls : List (Nat × Value)} {st : List Value} (C : fxC G d cc nL "ForkPool" nm ret hh x) {a n : Nat} {v : Value} (hd : decode cc pc = .ok (.putfield 138, 3)) (hn : narrow (tJob 9) v = v) (hfit : fits (tJob 9) v = true) (ha : fxk w a = some (2, n)) (k : fxR G nL x Q (fx_put w 137 a v) (pc + 3) ls st) : fxR G nL x Q w pc ls (v :: .ref a :: st) := r_putN (Cn := RJob) (T := FJob) (N := 10) (ci := 2) (k0 := 9) C hd rfl (by decide) inJob tJob tyJob nmJob (by decide) lk_FP_138 (Or.inl rfl) rfl (tyJob 9 (by decide)) hn hfit ha k
theorem p_FP_152 {G : fxG} {d nL : Nat} {cc : ByteArray} {nm : String} {ret : Option FieldType} {hh : List (Nat × Nat × Nat × Nat)} {x : fxX} {Q : State → Prop} {w : fxW} {pc : Nat} {ls : List (Nat × Value)} {st : List Value} (C : fxC G d cc nL "ForkPool" nm ret hh x) {a n : Nat} {v : Value} (hd : decode cc pc = .ok (.putfield 152, 3)) (hn : narrow (tJob 6) v = v) (hfit : fits (tJob 6) v = true) (ha : fxk w a = some (2, n)) (k : fxR G nL x Q (fx_put w 134 a v) (pc + 3) ls st) : fxR G nL x Q w pc ls (v :: .ref a :: st) := r_putN (Cn := RJob) (T := FJob) (N := 10) (ci := 2) (k0 := 6) C hd rfl (by decide) inJob tJob tyJob nmJob (by decide) lk_FP_152 (Or.inl rfl) rfl (tyJob 6 (by decide)) hn hfit ha k
theorem p_FP_155 {G : fxG} {d nL : Nat} {cc : ByteArray} {nm : String} {ret : Option FieldType} {hh : List (Nat × Nat × Nat × Nat)} {x : fxX} {Q : State → Prop} {w : fxW} {pc : Nat} {ls : List (Nat × Value)} {st : List Value} (C : fxC G d cc nL "ForkPool" nm ret hh x) {a n : Nat} {v : Value} (hd : decode cc pc = .ok (.putfield 155, 3)) (hn : narrow (tJob 7) v = v) (hfit : fits (tJob 7) v = true) (ha : fxk w a = some (2, n)) (k : fxR G nL x Q (fx_put w 135 a v) (pc + 3) ls st) : fxR G nL x Q w pc ls (v :: .ref a :: st) := r_putN (Cn := RJob) (T := FJob) (N := 10) (ci := 2) (k0 := 7) C hd rfl (by decide) inJob tJob tyJob nmJob (by decide) lk_FP_155 (Or.inl rfl) rfl (tyJob 7 (by decide)) hn hfit ha k
theorem p_FP_189 {G : fxG} {d nL : Nat} {cc : ByteArray} {nm : String} {ret : Option FieldType} {hh : List (Nat × Nat × Nat × Nat)} {x : fxX} {Q : State → Prop} {w : fxW} {pc : Nat} {ls : List (Nat × Value)} {st : List Value} (C : fxC G d cc nL "ForkPool" nm ret hh x) {a n : Nat} {v : Value} (hd : decode cc pc = .ok (.putfield 189, 3)) (hn : narrow (tWk 1) v = v) (hfit : fits (tWk 1) v = true) (ha : fxk w a = some (4, n)) (k : fxR G nL x Q (fx_put w 257 a v) (pc + 3) ls st) : fxR G nL x Q w pc ls (v :: .ref a :: st) := r_putN (Cn := RWk) (T := FWk) (N := 5) (ci := 4) (k0 := 1) C hd rfl (by decide) inWk tWk tyWk nmWk (by decide) lk_FP_189 (Or.inl rfl) rfl (tyWk 1 (by decide)) hn hfit ha k
theorem p_FP_190 {G : fxG} {d nL : Nat} {cc : ByteArray} {nm : String} {ret : Option FieldType} {hh : List (Nat × Nat × Nat × Nat)} {x : fxX} {Q : State → Prop} {w : fxW} {pc : Nat} {ls : List (Nat × Value)} {st : List Value} (C : fxC G d cc nL "ForkPool" nm ret hh x) {a n : Nat} {v : Value} (hd : decode cc pc = .ok (.putfield 190, 3)) (hn : narrow (tWk 2) v = v) (hfit : fits (tWk 2) v = true) (ha : fxk w a = some (4, n)) (k : fxR G nL x Q (fx_put w 258 a v) (pc + 3) ls st) : fxR G nL x Q w pc ls (v :: .ref a :: st) := r_putN (Cn := RWk) (T := FWk) (N := 5) (ci := 4) (k0 := 2) C hd rfl (by decide) inWk tWk tyWk nmWk (by decide) lk_FP_190 (Or.inl rfl) rfl (tyWk 2 (by decide)) hn hfit ha k
theorem p_FP_193 {G : fxG} {d nL : Nat} {cc : ByteArray} {nm : String} {ret : Option FieldType} {hh : List (Nat × Nat × Nat × Nat)} {x : fxX} {Q : State → Prop} {w : fxW} {pc : Nat} {ls : List (Nat × Value)} {st : List Value} (C : fxC G d cc nL "ForkPool" nm ret hh x) {a n : Nat} {v : Value} (hd : decode cc pc = .ok (.putfield 193, 3)) (hn : narrow (tWk 3) v = v) (hfit : fits (tWk 3) v = true) (ha : fxk w a = some (4, n)) (k : fxR G nL x Q (fx_put w 259 a v) (pc + 3) ls st) : fxR G nL x Q w pc ls (v :: .ref a :: st) := r_putN (Cn := RWk) (T := FWk) (N := 5) (ci := 4) (k0 := 3) C hd rfl (by decide) inWk tWk tyWk nmWk (by decide) lk_FP_193 (Or.inl rfl) rfl (tyWk 3 (by decide)) hn hfit ha k
theorem p_FP_196 {G : fxG} {d nL : Nat} {cc : ByteArray} {nm : String} {ret : Option FieldType} {hh : List (Nat × Nat × Nat × Nat)} {x : fxX} {Q : State → Prop} {w : fxW} {pc : Nat} {ls : List (Nat × Value)} {st : List Value} (C : fxC G d cc nL "ForkPool" nm ret hh x) {a n : Nat} {v : Value} (hd : decode cc pc = .ok (.putfield 196, 3)) (hn : narrow (tWk 4) v = v) (hfit : fits (tWk 4) v = true) (ha : fxk w a = some (4, n)) (k : fxR G nL x Q (fx_put w 260 a v) (pc + 3) ls st) : fxR G nL x Q w pc ls (v :: .ref a :: st) := r_putN (Cn := RWk) (T := FWk) (N := 5) (ci := 4) (k0 := 4) C hd rfl (by decide) inWk tWk tyWk nmWk (by decide) lk_FP_196 (Or.inl rfl) rfl (tyWk 4 (by decide)) hn hfit ha k
theorem p_FP_203 {G : fxG} {d nL : Nat} {cc : ByteArray} {nm : String} {ret : Option FieldType} {hh : List (Nat × Nat × Nat × Nat)} {x : fxX} {Q : State → Prop} {w : fxW} {pc : Nat} {ls : List (Nat × Value)} {st : List Value} (C : fxC G d cc nL "ForkPool" nm ret hh x) {a n : Nat} {v : Value} (hd : decode cc pc = .ok (.putfield 203, 3)) (hn : narrow (tFP 4) v = v) (hfit : fits (tFP 4) v = true) (ha : fxk w a = some (0, n)) (k : fxR G nL x Q (fx_put w 4 a v) (pc + 3) ls st) : fxR G nL x Q w pc ls (v :: .ref a :: st) := r_put (Cn := RFP) (T := FFP) (N := 7) (ci := 0) (k0 := 4) C hd rfl (by decide) inFP tFP tyFP nmFP (by decide) lk_FP_203 (Or.inl rfl) rfl (tyFP 4 (by decide)) hn hfit ha k
theorem p_FP_206 {G : fxG} {d nL : Nat} {cc : ByteArray} {nm : String} {ret : Option FieldType} {hh : List (Nat × Nat × Nat × Nat)} {x : fxX} {Q : State → Prop} {w : fxW} {pc : Nat} {ls : List (Nat × Value)} {st : List Value} (C : fxC G d cc nL "ForkPool" nm ret hh x) {a n : Nat} {v : Value} (hd : decode cc pc = .ok (.putfield 206, 3)) (hn : narrow (tFP 5) v = v) (hfit : fits (tFP 5) v = true) (ha : fxk w a = some (0, n)) (k : fxR G nL x Q (fx_put w 5 a v) (pc + 3) ls st) : fxR G nL x Q w pc ls (v :: .ref a :: st) := r_put (Cn := RFP) (T := FFP) (N := 7) (ci := 0) (k0 := 5) C hd rfl (by decide) inFP tFP tyFP nmFP (by decide) lk_FP_206 (Or.inl rfl) rfl (tyFP 5 (by decide)) hn hfit ha k
theorem p_FP_261 {G : fxG} {d nL : Nat} {cc : ByteArray} {nm : String} {ret : Option FieldType} {hh : List (Nat × Nat × Nat × Nat)} {x : fxX} {Q : State → Prop} {w : fxW} {pc : Nat} {ls : List (Nat × Value)} {st : List Value} (C : fxC G d cc nL "ForkPool" nm ret hh x) {a n : Nat} {v : Value} (hd : decode cc pc = .ok (.putfield 261, 3)) (hn : narrow (tJob 8) v = v) (hfit : fits (tJob 8) v = true) (ha : fxk w a = some (2, n)) (k : fxR G nL x Q (fx_put w 136 a v) (pc + 3) ls st) : fxR G nL x Q w pc ls (v :: .ref a :: st) := r_putN (Cn := RJob) (T := FJob) (N := 10) (ci := 2) (k0 := 8) C hd rfl (by decide) inJob tJob tyJob nmJob (by decide) lk_FP_261 (Or.inl rfl) rfl (tyJob 8 (by decide)) hn hfit ha k
theorem p_FP_271 {G : fxG} {d nL : Nat} {cc : ByteArray} {nm : String} {ret : Option FieldType} {hh : List (Nat × Nat × Nat × Nat)} {x : fxX} {Q : State → Prop} {w : fxW} {pc : Nat} {ls : List (Nat × Value)} {st : List Value} (C : fxC G d cc nL "ForkPool" nm ret hh x) {a n : Nat} {v : Value} (hd : decode cc pc = .ok (.putfield 271, 3)) (hn : narrow (tTask 6) v = v) (hfit : fits (tTask 6) v = true) (ha : fxk w a = some (3, n)) (k : fxR G nL x Q (fx_put w 198 a v) (pc + 3) ls st) : fxR G nL x Q w pc ls (v :: .ref a :: st) := r_putN (Cn := RTask) (T := FTask) (N := 9) (ci := 3) (k0 := 6) C hd rfl (by decide) inTask tTask tyTask nmTask (by decide) lk_FP_271 (Or.inl rfl) rfl (tyTask 6 (by decide)) hn hfit ha k
theorem lk_Job_21 : Cond.fieldLink "ForkPool$Job" 21 "ForkPool$Job" "kind" "I" ∈ fxTW := fxTW_in 348 (by decide +kernel) rfl
theorem g_Job_21 {G : fxG} {d nL : Nat} {cc : ByteArray} {nm : String} {ret : Option FieldType} {hh : List (Nat × Nat × Nat × Nat)} {x : fxX} {Q : State → Prop} {w : fxW} {pc : Nat} {ls : List (Nat × Value)} {st : List Value} (C : fxC G d cc nL "ForkPool$Job" nm ret hh x) {a n : Nat} {v : Value} (hd : decode cc pc = .ok (.getfield 21, 3)) (ha : fxk w a = some (2, n)) (hv : fxf w 129 a = v) (k : fxR G nL x Q w (pc + 3) ls (v :: st)) : fxR G nL x Q w pc ls (.ref a :: st) := r_get (Cn := RJob) (T := FJob) (N := 10) (ci := 2) (k0 := 1) C hd rfl (by decide) inJob (by decide) lk_Job_21 (Or.inl rfl) ha hv k
theorem lk_Job_24 : Cond.fieldLink "ForkPool$Job" 24 "ForkPool$Job" "row" "LForkPool$Row;" ∈ fxTW := fxTW_in 350 (by decide +kernel) rfl
theorem g_Job_24 {G : fxG} {d nL : Nat} {cc : ByteArray} {nm : String} {ret : Option FieldType} {hh : List (Nat × Nat × Nat × Nat)} {x : fxX} {Q : State → Prop} {w : fxW} {pc : Nat} {ls : List (Nat × Value)} {st : List Value} (C : fxC G d cc nL "ForkPool$Job" nm ret hh x) {a n : Nat} {v : Value} (hd : decode cc pc = .ok (.getfield 24, 3)) (ha : fxk w a = some (2, n)) (hv : fxf w 130 a = v) (k : fxR G nL x Q w (pc + 3) ls (v :: st)) : fxR G nL x Q w pc ls (.ref a :: st) := r_get (Cn := RJob) (T := FJob) (N := 10) (ci := 2) (k0 := 2) C hd rfl (by decide) inJob (by decide) lk_Job_24 (Or.inl rfl) ha hv k
theorem lk_Job_28 : Cond.fieldLink "ForkPool$Job" 28 "ForkPool$Job" "c" "I" ∈ fxTW := fxTW_in 353 (by decide +kernel) rfl
theorem g_Job_28 {G : fxG} {d nL : Nat} {cc : ByteArray} {nm : String} {ret : Option FieldType} {hh : List (Nat × Nat × Nat × Nat)} {x : fxX} {Q : State → Prop} {w : fxW} {pc : Nat} {ls : List (Nat × Value)} {st : List Value} (C : fxC G d cc nL "ForkPool$Job" nm ret hh x) {a n : Nat} {v : Value} (hd : decode cc pc = .ok (.getfield 28, 3)) (ha : fxk w a = some (2, n)) (hv : fxf w 131 a = v) (k : fxR G nL x Q w (pc + 3) ls (v :: st)) : fxR G nL x Q w pc ls (.ref a :: st) := r_get (Cn := RJob) (T := FJob) (N := 10) (ci := 2) (k0 := 3) C hd rfl (by decide) inJob (by decide) lk_Job_28 (Or.inl rfl) ha hv k
theorem lk_Job_31 : Cond.fieldLink "ForkPool$Job" 31 "ForkPool$Job" "d" "I" ∈ fxTW := fxTW_in 354 (by decide +kernel) rfl
theorem g_Job_31 {G : fxG} {d nL : Nat} {cc : ByteArray} {nm : String} {ret : Option FieldType} {hh : List (Nat × Nat × Nat × Nat)} {x : fxX} {Q : State → Prop} {w : fxW} {pc : Nat} {ls : List (Nat × Value)} {st : List Value} (C : fxC G d cc nL "ForkPool$Job" nm ret hh x) {a n : Nat} {v : Value} (hd : decode cc pc = .ok (.getfield 31, 3)) (ha : fxk w a = some (2, n)) (hv : fxf w 132 a = v) (k : fxR G nL x Q w (pc + 3) ls (v :: st)) : fxR G nL x Q w pc ls (.ref a :: st) := r_get (Cn := RJob) (T := FJob) (N := 10) (ci := 2) (k0 := 4) C hd rfl (by decide) inJob (by decide) lk_Job_31 (Or.inl rfl) ha hv k
theorem lk_Job_34 : Cond.fieldLinkNest "ForkPool$Job" 34 "ForkPool$Task" "from" "I" "ForkPool" ∈ fxTW := fxTW_in 396 (by decide +kernel) rfl
theorem g_Job_34 {G : fxG} {d nL : Nat} {cc : ByteArray} {nm : String} {ret : Option FieldType} {hh : List (Nat × Nat × Nat × Nat)} {x : fxX} {Q : State → Prop} {w : fxW} {pc : Nat} {ls : List (Nat × Value)} {st : List Value} (C : fxC G d cc nL "ForkPool$Job" nm ret hh x) {a n : Nat} {v : Value} (hd : decode cc pc = .ok (.getfield 34, 3)) (ha : fxk w a = some (3, n)) (hv : fxf w 194 a = v) (k : fxR G nL x Q w (pc + 3) ls (v :: st)) : fxR G nL x Q w pc ls (.ref a :: st) := r_getN (Cn := RTask) (T := FTask) (N := 9) (ci := 3) (k0 := 2) C hd rfl (by decide) inTask (by decide) lk_Job_34 (Or.inl rfl) ha hv k
theorem lk_Job_39 : Cond.fieldLinkNest "ForkPool$Job" 39 "ForkPool$Task" "to" "I" "ForkPool" ∈ fxTW := fxTW_in 399 (by decide +kernel) rfl
theorem g_Job_39 {G : fxG} {d nL : Nat} {cc : ByteArray} {nm : String} {ret : Option FieldType} {hh : List (Nat × Nat × Nat × Nat)} {x : fxX} {Q : State → Prop} {w : fxW} {pc : Nat} {ls : List (Nat × Value)} {st : List Value} (C : fxC G d cc nL "ForkPool$Job" nm ret hh x) {a n : Nat} {v : Value} (hd : decode cc pc = .ok (.getfield 39, 3)) (ha : fxk w a = some (3, n)) (hv : fxf w 195 a = v) (k : fxR G nL x Q w (pc + 3) ls (v :: st)) : fxR G nL x Q w pc ls (.ref a :: st) := r_getN (Cn := RTask) (T := FTask) (N := 9) (ci := 3) (k0 := 3) C hd rfl (by decide) inTask (by decide) lk_Job_39 (Or.inl rfl) ha hv k
theorem lk_Job_48 : Cond.fieldLinkNest "ForkPool$Job" 48 "ForkPool$Task" "result" "J" "ForkPool" ∈ fxTW := fxTW_in 409 (by decide +kernel) rfl
theorem g_Job_48 {G : fxG} {d nL : Nat} {cc : ByteArray} {nm : String} {ret : Option FieldType} {hh : List (Nat × Nat × Nat × Nat)} {x : fxX} {Q : State → Prop} {w : fxW} {pc : Nat} {ls : List (Nat × Value)} {st : List Value} (C : fxC G d cc nL "ForkPool$Job" nm ret hh x) {a n : Nat} {v : Value} (hd : decode cc pc = .ok (.getfield 48, 3)) (ha : fxk w a = some (3, n)) (hv : fxf w 199 a = v) (k : fxR G nL x Q w (pc + 3) ls (v :: st)) : fxR G nL x Q w pc ls (.ref a :: st) := r_getN (Cn := RTask) (T := FTask) (N := 9) (ci := 3) (k0 := 7) C hd rfl (by decide) inTask (by decide) lk_Job_48 (Or.inl rfl) ha hv k
theorem lk_Job_55 : Cond.fieldLink "ForkPool$Job" 55 "ForkPool$Job" "inSecondRound" "Z" ∈ fxTW := fxTW_in 360 (by decide +kernel) rfl
theorem g_Job_55 {G : fxG} {d nL : Nat} {cc : ByteArray} {nm : String} {ret : Option FieldType} {hh : List (Nat × Nat × Nat × Nat)} {x : fxX} {Q : State → Prop} {w : fxW} {pc : Nat} {ls : List (Nat × Value)} {st : List Value} (C : fxC G d cc nL "ForkPool$Job" nm ret hh x) {a n : Nat} {v : Value} (hd : decode cc pc = .ok (.getfield 55, 3)) (ha : fxk w a = some (2, n)) (hv : fxf w 136 a = v) (k : fxR G nL x Q w (pc + 3) ls (v :: st)) : fxR G nL x Q w pc ls (.ref a :: st) := r_get (Cn := RJob) (T := FJob) (N := 10) (ci := 2) (k0 := 8) C hd rfl (by decide) inJob (by decide) lk_Job_55 (Or.inl rfl) ha hv k
theorem lk_Job_59 : Cond.fieldLinkNest "ForkPool$Job" 59 "ForkPool$Task" "base" "J" "ForkPool" ∈ fxTW := fxTW_in 412 (by decide +kernel) rfl
theorem g_Job_59 {G : fxG} {d nL : Nat} {cc : ByteArray} {nm : String} {ret : Option FieldType} {hh : List (Nat × Nat × Nat × Nat)} {x : fxX} {Q : State → Prop} {w : fxW} {pc : Nat} {ls : List (Nat × Value)} {st : List Value} (C : fxC G d cc nL "ForkPool$Job" nm ret hh x) {a n : Nat} {v : Value} (hd : decode cc pc = .ok (.getfield 59, 3)) (ha : fxk w a = some (3, n)) (hv : fxf w 200 a = v) (k : fxR G nL x Q w (pc + 3) ls (v :: st)) : fxR G nL x Q w pc ls (.ref a :: st) := r_getN (Cn := RTask) (T := FTask) (N := 9) (ci := 3) (k0 := 8) C hd rfl (by decide) inTask (by decide) lk_Job_59 (Or.inl rfl) ha hv k
theorem lk_Job_82 : Cond.fieldLinkNest "ForkPool$Job" 82 "ForkPool$Task" "first" "LForkPool$Task;" "ForkPool" ∈ fxTW := fxTW_in 402 (by decide +kernel) rfl
theorem g_Job_82 {G : fxG} {d nL : Nat} {cc : ByteArray} {nm : String} {ret : Option FieldType} {hh : List (Nat × Nat × Nat × Nat)} {x : fxX} {Q : State → Prop} {w : fxW} {pc : Nat} {ls : List (Nat × Value)} {st : List Value} (C : fxC G d cc nL "ForkPool$Job" nm ret hh x) {a n : Nat} {v : Value} (hd : decode cc pc = .ok (.getfield 82, 3)) (ha : fxk w a = some (3, n)) (hv : fxf w 196 a = v) (k : fxR G nL x Q w (pc + 3) ls (v :: st)) : fxR G nL x Q w pc ls (.ref a :: st) := r_getN (Cn := RTask) (T := FTask) (N := 9) (ci := 3) (k0 := 4) C hd rfl (by decide) inTask (by decide) lk_Job_82 (Or.inl rfl) ha hv k
theorem lk_Job_86 : Cond.fieldLinkNest "ForkPool$Job" 86 "ForkPool$Task" "second" "LForkPool$Task;" "ForkPool" ∈ fxTW := fxTW_in 405 (by decide +kernel) rfl
theorem g_Job_86 {G : fxG} {d nL : Nat} {cc : ByteArray} {nm : String} {ret : Option FieldType} {hh : List (Nat × Nat × Nat × Nat)} {x : fxX} {Q : State → Prop} {w : fxW} {pc : Nat} {ls : List (Nat × Value)} {st : List Value} (C : fxC G d cc nL "ForkPool$Job" nm ret hh x) {a n : Nat} {v : Value} (hd : decode cc pc = .ok (.getfield 86, 3)) (ha : fxk w a = some (3, n)) (hv : fxf w 197 a = v) (k : fxR G nL x Q w (pc + 3) ls (v :: st)) : fxR G nL x Q w pc ls (.ref a :: st) := r_getN (Cn := RTask) (T := FTask) (N := 9) (ci := 3) (k0 := 5) C hd rfl (by decide) inTask (by decide) lk_Job_86 (Or.inl rfl) ha hv k
theorem o_Job_3 {G : fxG} {d nL : Nat} {cc : ByteArray} {nm : String} {ret : Option FieldType} {hh : List (Nat × Nat × Nat × Nat)} {x : fxX} {Q : State → Prop} {w : fxW} {pc : Nat} {ls : List (Nat × Value)} {st : List Value} (C : fxC G d cc nL "ForkPool$Job" nm ret hh x) {b : Nat} (hd : decode cc pc = .ok (.invokespecial 3, 3)) (h1 : 1 ≤ d) (hst : (st.map fun v => v.category).sum ≤ 8) (k : fxR G nL x Q w (pc + 3) ls st) : fxR G nL x Q w pc ls (.ref b :: st) := r_objInit C hd (fxTW_in 345 (by decide +kernel) rfl) (fxTW_in 68 (by decide +kernel) rfl) (fxTW_in 69 (by decide +kernel) rfl) h1 hst k
theorem lm_Job_89 : Cond.methodLink "ForkPool$Job" 89 y_Ma_maxL ∈ fxTW := fxTW_in 598 (by decide +kernel) rfl
theorem c_Job_89 {G : fxG} {d nL : Nat} {cc : ByteArray} {nm : String} {ret : Option FieldType} {hh : List (Nat × Nat × Nat × Nat)} {x : fxX} {Q : State → Prop} {w : fxW} {pc : Nat} {ls : List (Nat × Value)} {st : List Value} (C : fxC G d cc nL "ForkPool$Job" nm ret hh x) {d' : Nat} {a0 a1 : Value} {P : Outcome → fxW → Prop} (hd : decode cc pc = .ok (.invokestatic 89, 3)) (hM : fxM G d' y_Ma_maxL [a0, a1] w P) (hdd : d' < d) (hst : (st.map fun v => v.category).sum ≤ 8) (k1 : ∀ v w', P (.returned v) w' → fxR G nL x Q w' (pc + 3) ls (v.toList ++ st)) (k2 : ∀ a w', P (.threw a) w' → fxRt G nL x Q w' pc ls st a) : fxR G nL x Q w pc ls (a1 :: a0 :: st) := r_callS (As := [a0, a1]) C hd lm_Job_89 (fxTW_in 322 (by decide +kernel) rfl) w_Ma_maxL ini_java_lang_Math (by decide) np_Ma_maxL (by decide) hM hdd hst rfl k1 k2
theorem lm_Job_42 : Cond.methodLink "ForkPool$Job" 42 y_Row_sumOf ∈ fxTW := fxTW_in 556 (by decide +kernel) rfl
theorem c_Job_42 {G : fxG} {d nL : Nat} {cc : ByteArray} {nm : String} {ret : Option FieldType} {hh : List (Nat × Nat × Nat × Nat)} {x : fxX} {Q : State → Prop} {w : fxW} {pc : Nat} {ls : List (Nat × Value)} {st : List Value} (C : fxC G d cc nL "ForkPool$Job" nm ret hh x) {b n0 d' : Nat} {a0 a1 : Value} {P : Outcome → fxW → Prop} (hd : decode cc pc = .ok (.invokevirtual 42, 3)) (hb9 : fxk w b = some (1, n0)) (hM : fxM G d' y_Row_sumOf (.ref b :: [a0, a1]) w P) (hdd : d' < d) (hst : (st.map fun v => v.category).sum ≤ 8) (k1 : ∀ v w', P (.returned v) w' → fxR G nL x Q w' (pc + 3) ls (v.toList ++ st)) (k2 : ∀ a w', P (.threw a) w' → fxRt G nL x Q w' pc ls st a) : fxR G nL x Q w pc ls (a1 :: a0 :: .ref b :: st) := r_callV (As := [a0, a1]) (Cn := "ForkPool$Row") (ci := 1) C hd lm_Job_42 (fxTW_in 557 (by decide +kernel) rfl) (fxTW_in 558 (by decide +kernel) rfl) w_Row_sumOf ini_ForkPool_Row (by decide) np_Row_sumOf (by decide) (by decide) rfl hb9 hM hdd hst rfl k1 k2
theorem lm_Job_52 : Cond.methodLink "ForkPool$Job" 52 y_Row_greatestOf ∈ fxTW := fxTW_in 561 (by decide +kernel) rfl
theorem c_Job_52 {G : fxG} {d nL : Nat} {cc : ByteArray} {nm : String} {ret : Option FieldType} {hh : List (Nat × Nat × Nat × Nat)} {x : fxX} {Q : State → Prop} {w : fxW} {pc : Nat} {ls : List (Nat × Value)} {st : List Value} (C : fxC G d cc nL "ForkPool$Job" nm ret hh x) {b n0 d' : Nat} {a0 a1 : Value} {P : Outcome → fxW → Prop} (hd : decode cc pc = .ok (.invokevirtual 52, 3)) (hb9 : fxk w b = some (1, n0)) (hM : fxM G d' y_Row_greatestOf (.ref b :: [a0, a1]) w P) (hdd : d' < d) (hst : (st.map fun v => v.category).sum ≤ 8) (k1 : ∀ v w', P (.returned v) w' → fxR G nL x Q w' (pc + 3) ls (v.toList ++ st)) (k2 : ∀ a w', P (.threw a) w' → fxRt G nL x Q w' pc ls st a) : fxR G nL x Q w pc ls (a1 :: a0 :: .ref b :: st) := r_callV (As := [a0, a1]) (Cn := "ForkPool$Row") (ci := 1) C hd lm_Job_52 (fxTW_in 562 (by decide +kernel) rfl) (fxTW_in 563 (by decide +kernel) rfl) w_Row_greatestOf ini_ForkPool_Row (by decide) np_Row_greatestOf (by decide) (by decide) rfl hb9 hM hdd hst rfl k1 k2
theorem lm_Job_62 : Cond.methodLink "ForkPool$Job" 62 y_Row_addUp ∈ fxTW := fxTW_in 565 (by decide +kernel) rfl
theorem c_Job_62 {G : fxG} {d nL : Nat} {cc : ByteArray} {nm : String} {ret : Option FieldType} {hh : List (Nat × Nat × Nat × Nat)} {x : fxX} {Q : State → Prop} {w : fxW} {pc : Nat} {ls : List (Nat × Value)} {st : List Value} (C : fxC G d cc nL "ForkPool$Job" nm ret hh x) {b n0 d' : Nat} {a0 a1 a2 : Value} {P : Outcome → fxW → Prop} (hd : decode cc pc = .ok (.invokevirtual 62, 3)) (hb9 : fxk w b = some (1, n0)) (hM : fxM G d' y_Row_addUp (.ref b :: [a0, a1, a2]) w P) (hdd : d' < d) (hst : (st.map fun v => v.category).sum ≤ 8) (k1 : ∀ v w', P (.returned v) w' → fxR G nL x Q w' (pc + 3) ls (v.toList ++ st)) (k2 : ∀ a w', P (.threw a) w' → fxRt G nL x Q w' pc ls st a) : fxR G nL x Q w pc ls (a2 :: a1 :: a0 :: .ref b :: st) := r_callV (As := [a0, a1, a2]) (Cn := "ForkPool$Row") (ci := 1) C hd lm_Job_62 (fxTW_in 566 (by decide +kernel) rfl) (fxTW_in 567 (by decide +kernel) rfl) w_Row_addUp ini_ForkPool_Row (by decide) np_Row_addUp (by decide) (by decide) rfl hb9 hM hdd hst rfl k1 k2
theorem lm_Job_66 : Cond.methodLink "ForkPool$Job" 66 y_Row_putInOrder ∈ fxTW := fxTW_in 569 (by decide +kernel) rfl
theorem c_Job_66 {G : fxG} {d nL : Nat} {cc : ByteArray} {nm : String} {ret : Option FieldType} {hh : List (Nat × Nat × Nat × Nat)} {x : fxX} {Q : State → Prop} {w : fxW} {pc : Nat} {ls : List (Nat × Value)} {st : List Value} (C : fxC G d cc nL "ForkPool$Job" nm ret hh x) {b n0 d' : Nat} {a0 a1 : Value} {P : Outcome → fxW → Prop} (hd : decode cc pc = .ok (.invokevirtual 66, 3)) (hb9 : fxk w b = some (1, n0)) (hM : fxM G d' y_Row_putInOrder (.ref b :: [a0, a1]) w P) (hdd : d' < d) (hst : (st.map fun v => v.category).sum ≤ 8) (k1 : ∀ v w', P (.returned v) w' → fxR G nL x Q w' (pc + 3) ls (v.toList ++ st)) (k2 : ∀ a w', P (.threw a) w' → fxRt G nL x Q w' pc ls st a) : fxR G nL x Q w pc ls (a1 :: a0 :: .ref b :: st) := r_callV (As := [a0, a1]) (Cn := "ForkPool$Row") (ci := 1) C hd lm_Job_66 (fxTW_in 570 (by decide +kernel) rfl) (fxTW_in 571 (by decide +kernel) rfl) w_Row_putInOrder ini_ForkPool_Row (by decide) np_Row_putInOrder (by decide) (by decide) rfl hb9 hM hdd hst rfl k1 k2
theorem lm_Job_70 : Cond.methodLink "ForkPool$Job" 70 y_Row_mapAll ∈ fxTW := fxTW_in 573 (by decide +kernel) rfl
theorem c_Job_70 {G : fxG} {d nL : Nat} {cc : ByteArray} {nm : String} {ret : Option FieldType} {hh : List (Nat × Nat × Nat × Nat)} {x : fxX} {Q : State → Prop} {w : fxW} {pc : Nat} {ls : List (Nat × Value)} {st : List Value} (C : fxC G d cc nL "ForkPool$Job" nm ret hh x) {b n0 d' : Nat} {a0 a1 a2 a3 : Value} {P : Outcome → fxW → Prop} (hd : decode cc pc = .ok (.invokevirtual 70, 3)) (hb9 : fxk w b = some (1, n0)) (hM : fxM G d' y_Row_mapAll (.ref b :: [a0, a1, a2, a3]) w P) (hdd : d' < d) (hst : (st.map fun v => v.category).sum ≤ 8) (k1 : ∀ v w', P (.returned v) w' → fxR G nL x Q w' (pc + 3) ls (v.toList ++ st)) (k2 : ∀ a w', P (.threw a) w' → fxRt G nL x Q w' pc ls st a) : fxR G nL x Q w pc ls (a3 :: a2 :: a1 :: a0 :: .ref b :: st) := r_callV (As := [a0, a1, a2, a3]) (Cn := "ForkPool$Row") (ci := 1) C hd lm_Job_70 (fxTW_in 574 (by decide +kernel) rfl) (fxTW_in 575 (by decide +kernel) rfl) w_Row_mapAll ini_ForkPool_Row (by decide) np_Row_mapAll (by decide) (by decide) rfl hb9 hM hdd hst rfl k1 k2
theorem lm_Job_74 : Cond.methodLink "ForkPool$Job" 74 y_Row_shareAll ∈ fxTW := fxTW_in 582 (by decide +kernel) rfl
theorem c_Job_74 {G : fxG} {d nL : Nat} {cc : ByteArray} {nm : String} {ret : Option FieldType} {hh : List (Nat × Nat × Nat × Nat)} {x : fxX} {Q : State → Prop} {w : fxW} {pc : Nat} {ls : List (Nat × Value)} {st : List Value} (C : fxC G d cc nL "ForkPool$Job" nm ret hh x) {b n0 d' : Nat} {a0 a1 a2 : Value} {P : Outcome → fxW → Prop} (hd : decode cc pc = .ok (.invokevirtual 74, 3)) (hb9 : fxk w b = some (1, n0)) (hM : fxM G d' y_Row_shareAll (.ref b :: [a0, a1, a2]) w P) (hdd : d' < d) (hst : (st.map fun v => v.category).sum ≤ 8) (k1 : ∀ v w', P (.returned v) w' → fxR G nL x Q w' (pc + 3) ls (v.toList ++ st)) (k2 : ∀ a w', P (.threw a) w' → fxRt G nL x Q w' pc ls st a) : fxR G nL x Q w pc ls (a2 :: a1 :: a0 :: .ref b :: st) := r_callV (As := [a0, a1, a2]) (Cn := "ForkPool$Row") (ci := 1) C hd lm_Job_74 (fxTW_in 583 (by decide +kernel) rfl) (fxTW_in 584 (by decide +kernel) rfl) w_Row_shareAll ini_ForkPool_Row (by decide) np_Row_shareAll (by decide) (by decide) rfl hb9 hM hdd hst rfl k1 k2
theorem lm_Job_78 : Cond.methodLink "ForkPool$Job" 78 y_Task_hasForked ∈ fxTW := fxTW_in 597 (by decide +kernel) rfl
theorem c_Job_78 {G : fxG} {d nL : Nat} {cc : ByteArray} {nm : String} {ret : Option FieldType} {hh : List (Nat × Nat × Nat × Nat)} {x : fxX} {Q : State → Prop} {w : fxW} {pc : Nat} {ls : List (Nat × Value)} {st : List Value} (C : fxC G d cc nL "ForkPool$Job" nm ret hh x) {b n0 d' : Nat} {P : Outcome → fxW → Prop} (hd : decode cc pc = .ok (.invokevirtual 78, 3)) (hb9 : fxk w b = some (3, n0)) (hM : fxM G d' y_Task_hasForked (.ref b :: []) w P) (hdd : d' < d) (hst : (st.map fun v => v.category).sum ≤ 8) (k1 : ∀ v w', P (.returned v) w' → fxR G nL x Q w' (pc + 3) ls (v.toList ++ st)) (k2 : ∀ a w', P (.threw a) w' → fxRt G nL x Q w' pc ls st a) : fxR G nL x Q w pc ls (.ref b :: st) := r_callV (As := []) (Cn := "ForkPool$Task") (ci := 3) C hd lm_Job_78 (fxTW_in 541 (by decide +kernel) rfl) (fxTW_in 542 (by decide +kernel) rfl) w_Task_hasForked ini_ForkPool_Task (by decide) np_Task_hasForked (by decide) (by decide) rfl hb9 hM hdd hst rfl k1 k2
theorem lm_Job_95 : Cond.methodLink "ForkPool$Job" 95 y_Row_kept ∈ fxTW := fxTW_in 599 (by decide +kernel) rfl
theorem c_Job_95 {G : fxG} {d nL : Nat} {cc : ByteArray} {nm : String} {ret : Option FieldType} {hh : List (Nat × Nat × Nat × Nat)} {x : fxX} {Q : State → Prop} {w : fxW} {pc : Nat} {ls : List (Nat × Value)} {st : List Value} (C : fxC G d cc nL "ForkPool$Job" nm ret hh x) {b n0 d' : Nat} {a0 : Value} {P : Outcome → fxW → Prop} (hd : decode cc pc = .ok (.invokevirtual 95, 3)) (hb9 : fxk w b = some (1, n0)) (hM : fxM G d' y_Row_kept (.ref b :: [a0]) w P) (hdd : d' < d) (hst : (st.map fun v => v.category).sum ≤ 8) (k1 : ∀ v w', P (.returned v) w' → fxR G nL x Q w' (pc + 3) ls (v.toList ++ st)) (k2 : ∀ a w', P (.threw a) w' → fxRt G nL x Q w' pc ls st a) : fxR G nL x Q w pc ls (a0 :: .ref b :: st) := r_callV (As := [a0]) (Cn := "ForkPool$Row") (ci := 1) C hd lm_Job_95 (fxTW_in 313 (by decide +kernel) rfl) (fxTW_in 314 (by decide +kernel) rfl) w_Row_kept ini_ForkPool_Row (by decide) np_Row_kept (by decide) (by decide) rfl hb9 hM hdd hst rfl k1 k2
theorem lk_Job_9 : Cond.fieldLink "ForkPool$Job" 9 "ForkPool$Job" "state" "I" ∈ fxTW := fxTW_in 355 (by decide +kernel) rfl
theorem p_Job_9 {G : fxG} {d nL : Nat} {cc : ByteArray} {nm : String} {ret : Option FieldType} {hh : List (Nat × Nat × Nat × Nat)} {x : fxX} {Q : State → Prop} {w : fxW} {pc : Nat} {ls : List (Nat × Value)} {st : List Value} (C : fxC G d cc nL "ForkPool$Job" nm ret hh x) {a n : Nat} {v : Value} (hd : decode cc pc = .ok (.putfield 9, 3)) (hn : narrow (tJob 5) v = v) (hfit : fits (tJob 5) v = true) (ha : fxk w a = some (2, n)) (k : fxR G nL x Q (fx_put w 133 a v) (pc + 3) ls st) : fxR G nL x Q w pc ls (v :: .ref a :: st) := r_put (Cn := RJob) (T := FJob) (N := 10) (ci := 2) (k0 := 5) C hd rfl (by decide) inJob tJob tyJob nmJob (by decide) lk_Job_9 (Or.inl rfl) rfl (tyJob 5 (by decide)) hn hfit ha k
theorem lk_Job_15 : Cond.fieldLink "ForkPool$Job" 15 "ForkPool$Job" "failedAt" "I" ∈ fxTW := fxTW_in 357 (by decide +kernel) rfl
theorem p_Job_15 {G : fxG} {d nL : Nat} {cc : ByteArray} {nm : String} {ret : Option FieldType} {hh : List (Nat × Nat × Nat × Nat)} {x : fxX} {Q : State → Prop} {w : fxW} {pc : Nat} {ls : List (Nat × Value)} {st : List Value} (C : fxC G d cc nL "ForkPool$Job" nm ret hh x) {a n : Nat} {v : Value} (hd : decode cc pc = .ok (.putfield 15, 3)) (hn : narrow (tJob 6) v = v) (hfit : fits (tJob 6) v = true) (ha : fxk w a = some (2, n)) (k : fxR G nL x Q (fx_put w 134 a v) (pc + 3) ls st) : fxR G nL x Q w pc ls (v :: .ref a :: st) := r_put (Cn := RJob) (T := FJob) (N := 10) (ci := 2) (k0 := 6) C hd rfl (by decide) inJob tJob tyJob nmJob (by decide) lk_Job_15 (Or.inl rfl) rfl (tyJob 6 (by decide)) hn hfit ha k
theorem lk_Job_18 : Cond.fieldLink "ForkPool$Job" 18 "ForkPool$Job" "number" "I" ∈ fxTW := fxTW_in 346 (by decide +kernel) rfl
theorem p_Job_18F {G : fxG} {d nL : Nat} {cc : ByteArray} {nm : String} {ret : Option FieldType} {hh : List (Nat × Nat × Nat × Nat)} {x : fxX} {Q : State → Prop} {w : fxW} {pc : Nat} {ls : List (Nat × Value)} {st : List Value} (C : fxC G d cc nL "ForkPool$Job" "<init>" ret hh x) {a n : Nat} {v : Value} (hd : decode cc pc = .ok (.putfield 18, 3)) (hn : narrow (tJob 0) v = v) (hfit : fits (tJob 0) v = true) (ha : fxk w a = some (2, n)) (k : fxR G nL x Q (fx_put w 128 a v) (pc + 3) ls st) : fxR G nL x Q w pc ls (v :: .ref a :: st) := r_putF (Cn := RJob) (T := FJob) (N := 10) (ci := 2) (k0 := 0) C hd rfl (by decide) inJob tJob tyJob nmJob (by decide) lk_Job_18 (Or.inl rfl) rfl rfl (tyJob 0 (by decide)) hn hfit ha k
theorem p_Job_21F {G : fxG} {d nL : Nat} {cc : ByteArray} {nm : String} {ret : Option FieldType} {hh : List (Nat × Nat × Nat × Nat)} {x : fxX} {Q : State → Prop} {w : fxW} {pc : Nat} {ls : List (Nat × Value)} {st : List Value} (C : fxC G d cc nL "ForkPool$Job" "<init>" ret hh x) {a n : Nat} {v : Value} (hd : decode cc pc = .ok (.putfield 21, 3)) (hn : narrow (tJob 1) v = v) (hfit : fits (tJob 1) v = true) (ha : fxk w a = some (2, n)) (k : fxR G nL x Q (fx_put w 129 a v) (pc + 3) ls st) : fxR G nL x Q w pc ls (v :: .ref a :: st) := r_putF (Cn := RJob) (T := FJob) (N := 10) (ci := 2) (k0 := 1) C hd rfl (by decide) inJob tJob tyJob nmJob (by decide) lk_Job_21 (Or.inl rfl) rfl rfl (tyJob 1 (by decide)) hn hfit ha k
theorem p_Job_24F {G : fxG} {d nL : Nat} {cc : ByteArray} {nm : String} {ret : Option FieldType} {hh : List (Nat × Nat × Nat × Nat)} {x : fxX} {Q : State → Prop} {w : fxW} {pc : Nat} {ls : List (Nat × Value)} {st : List Value} (C : fxC G d cc nL "ForkPool$Job" "<init>" ret hh x) {a n : Nat} {v : Value} (hd : decode cc pc = .ok (.putfield 24, 3)) (hn : narrow (tJob 2) v = v) (hfit : fits (tJob 2) v = true) (ha : fxk w a = some (2, n)) (k : fxR G nL x Q (fx_put w 130 a v) (pc + 3) ls st) : fxR G nL x Q w pc ls (v :: .ref a :: st) := r_putF (Cn := RJob) (T := FJob) (N := 10) (ci := 2) (k0 := 2) C hd rfl (by decide) inJob tJob tyJob nmJob (by decide) lk_Job_24 (Or.inl rfl) rfl rfl (tyJob 2 (by decide)) hn hfit ha k
theorem p_Job_28F {G : fxG} {d nL : Nat} {cc : ByteArray} {nm : String} {ret : Option FieldType} {hh : List (Nat × Nat × Nat × Nat)} {x : fxX} {Q : State → Prop} {w : fxW} {pc : Nat} {ls : List (Nat × Value)} {st : List Value} (C : fxC G d cc nL "ForkPool$Job" "<init>" ret hh x) {a n : Nat} {v : Value} (hd : decode cc pc = .ok (.putfield 28, 3)) (hn : narrow (tJob 3) v = v) (hfit : fits (tJob 3) v = true) (ha : fxk w a = some (2, n)) (k : fxR G nL x Q (fx_put w 131 a v) (pc + 3) ls st) : fxR G nL x Q w pc ls (v :: .ref a :: st) := r_putF (Cn := RJob) (T := FJob) (N := 10) (ci := 2) (k0 := 3) C hd rfl (by decide) inJob tJob tyJob nmJob (by decide) lk_Job_28 (Or.inl rfl) rfl rfl (tyJob 3 (by decide)) hn hfit ha k
theorem p_Job_31F {G : fxG} {d nL : Nat} {cc : ByteArray} {nm : String} {ret : Option FieldType} {hh : List (Nat × Nat × Nat × Nat)} {x : fxX} {Q : State → Prop} {w : fxW} {pc : Nat} {ls : List (Nat × Value)} {st : List Value} (C : fxC G d cc nL "ForkPool$Job" "<init>" ret hh x) {a n : Nat} {v : Value} (hd : decode cc pc = .ok (.putfield 31, 3)) (hn : narrow (tJob 4) v = v) (hfit : fits (tJob 4) v = true) (ha : fxk w a = some (2, n)) (k : fxR G nL x Q (fx_put w 132 a v) (pc + 3) ls st) : fxR G nL x Q w pc ls (v :: .ref a :: st) := r_putF (Cn := RJob) (T := FJob) (N := 10) (ci := 2) (k0 := 4) C hd rfl (by decide) inJob tJob tyJob nmJob (by decide) lk_Job_31 (Or.inl rfl) rfl rfl (tyJob 4 (by decide)) hn hfit ha k
theorem p_Job_48 {G : fxG} {d nL : Nat} {cc : ByteArray} {nm : String} {ret : Option FieldType} {hh : List (Nat × Nat × Nat × Nat)} {x : fxX} {Q : State → Prop} {w : fxW} {pc : Nat} {ls : List (Nat × Value)} {st : List Value} (C : fxC G d cc nL "ForkPool$Job" nm ret hh x) {a n : Nat} {v : Value} (hd : decode cc pc = .ok (.putfield 48, 3)) (hn : narrow (tTask 7) v = v) (hfit : fits (tTask 7) v = true) (ha : fxk w a = some (3, n)) (k : fxR G nL x Q (fx_put w 199 a v) (pc + 3) ls st) : fxR G nL x Q w pc ls (v :: .ref a :: st) := r_putN (Cn := RTask) (T := FTask) (N := 9) (ci := 3) (k0 := 7) C hd rfl (by decide) inTask tTask tyTask nmTask (by decide) lk_Job_48 (Or.inl rfl) rfl (tyTask 7 (by decide)) hn hfit ha k
theorem lm_Lw_71 : Cond.methodLink "ForkPoolLaw" 71 y_FP_init ∈ fxTW := fxTW_in 64 (by decide +kernel) rfl
theorem c_Lw_71 {G : fxG} {d nL : Nat} {cc : ByteArray} {nm : String} {ret : Option FieldType} {hh : List (Nat × Nat × Nat × Nat)} {x : fxX} {Q : State → Prop} {w : fxW} {pc : Nat} {ls : List (Nat × Value)} {st : List Value} (C : fxC G d cc nL "ForkPoolLaw" nm ret hh x) {b d' : Nat} {a0 : Value} {P : Outcome → fxW → Prop} (hd : decode cc pc = .ok (.invokespecial 71, 3)) (hM : fxM G d' y_FP_init (.ref b :: [a0]) w P) (hdd : d' < d) (hst : (st.map fun v => v.category).sum ≤ 8) (k1 : ∀ v w', P (.returned v) w' → fxR G nL x Q w' (pc + 3) ls (v.toList ++ st)) (k2 : ∀ a w', P (.threw a) w' → fxRt G nL x Q w' pc ls st a) : fxR G nL x Q w pc ls (a0 :: .ref b :: st) := r_callI (As := [a0]) C hd lm_Lw_71 rfl (fxTW_in 65 (by decide +kernel) rfl) w_FP_init ini_ForkPool (by decide) np_FP_init (by decide) hM hdd hst rfl k1 k2
theorem lm_Lw_76 : Cond.methodLink "ForkPoolLaw" 76 y_Mo_init ∈ fxTW := fxTW_in 751 (by decide +kernel) rfl
theorem c_Lw_76 {G : fxG} {d nL : Nat} {cc : ByteArray} {nm : String} {ret : Option FieldType} {hh : List (Nat × Nat × Nat × Nat)} {x : fxX} {Q : State → Prop} {w : fxW} {pc : Nat} {ls : List (Nat × Value)} {st : List Value} (C : fxC G d cc nL "ForkPoolLaw" nm ret hh x) {b d' : Nat} {a0 : Value} {P : Outcome → fxW → Prop} (hd : decode cc pc = .ok (.invokespecial 76, 3)) (hM : fxM G d' y_Mo_init (.ref b :: [a0]) w P) (hdd : d' < d) (hst : (st.map fun v => v.category).sum ≤ 8) (k1 : ∀ v w', P (.returned v) w' → fxR G nL x Q w' (pc + 3) ls (v.toList ++ st)) (k2 : ∀ a w', P (.threw a) w' → fxRt G nL x Q w' pc ls st a) : fxR G nL x Q w pc ls (a0 :: .ref b :: st) := r_callI (As := [a0]) C hd lm_Lw_76 rfl (fxTW_in 752 (by decide +kernel) rfl) w_Mo_init ini_ForkPoolModel (by decide) np_Mo_init (by decide) hM hdd hst rfl k1 k2
theorem lm_Lw_65 : Cond.methodLink "ForkPoolLaw" 65 y_Lw_cell ∈ fxTW := fxTW_in 170 (by decide +kernel) rfl
theorem c_Lw_65 {G : fxG} {d nL : Nat} {cc : ByteArray} {nm : String} {ret : Option FieldType} {hh : List (Nat × Nat × Nat × Nat)} {x : fxX} {Q : State → Prop} {w : fxW} {pc : Nat} {ls : List (Nat × Value)} {st : List Value} (C : fxC G d cc nL "ForkPoolLaw" nm ret hh x) {d' : Nat} {a0 a1 : Value} {P : Outcome → fxW → Prop} (hd : decode cc pc = .ok (.invokestatic 65, 3)) (hM : fxM G d' y_Lw_cell [a0, a1] w P) (hdd : d' < d) (hst : (st.map fun v => v.category).sum ≤ 8) (k1 : ∀ v w', P (.returned v) w' → fxR G nL x Q w' (pc + 3) ls (v.toList ++ st)) (k2 : ∀ a w', P (.threw a) w' → fxRt G nL x Q w' pc ls st a) : fxR G nL x Q w pc ls (a1 :: a0 :: st) := r_callS (As := [a0, a1]) C hd lm_Lw_65 (fxTW_in 171 (by decide +kernel) rfl) w_Lw_cell ini_ForkPoolLaw (by decide) np_Lw_cell (by decide) hM hdd hst rfl k1 k2
theorem lm_Lw_77 : Cond.methodLink "ForkPoolLaw" 77 y_Lw_array ∈ fxTW := fxTW_in 173 (by decide +kernel) rfl
theorem c_Lw_77 {G : fxG} {d nL : Nat} {cc : ByteArray} {nm : String} {ret : Option FieldType} {hh : List (Nat × Nat × Nat × Nat)} {x : fxX} {Q : State → Prop} {w : fxW} {pc : Nat} {ls : List (Nat × Value)} {st : List Value} (C : fxC G d cc nL "ForkPoolLaw" nm ret hh x) {d' : Nat} {a0 a1 a2 a3 a4 : Value} {P : Outcome → fxW → Prop} (hd : decode cc pc = .ok (.invokestatic 77, 3)) (hM : fxM G d' y_Lw_array [a0, a1, a2, a3, a4] w P) (hdd : d' < d) (hst : (st.map fun v => v.category).sum ≤ 8) (k1 : ∀ v w', P (.returned v) w' → fxR G nL x Q w' (pc + 3) ls (v.toList ++ st)) (k2 : ∀ a w', P (.threw a) w' → fxRt G nL x Q w' pc ls st a) : fxR G nL x Q w pc ls (a4 :: a3 :: a2 :: a1 :: a0 :: st) := r_callS (As := [a0, a1, a2, a3, a4]) C hd lm_Lw_77 (fxTW_in 174 (by decide +kernel) rfl) w_Lw_array ini_ForkPoolLaw (by decide) np_Lw_array (by decide) hM hdd hst rfl k1 k2
theorem lm_Lw_87 : Cond.methodLink "ForkPoolLaw" 87 y_Lw_set ∈ fxTW := fxTW_in 279 (by decide +kernel) rfl
theorem c_Lw_87 {G : fxG} {d nL : Nat} {cc : ByteArray} {nm : String} {ret : Option FieldType} {hh : List (Nat × Nat × Nat × Nat)} {x : fxX} {Q : State → Prop} {w : fxW} {pc : Nat} {ls : List (Nat × Value)} {st : List Value} (C : fxC G d cc nL "ForkPoolLaw" nm ret hh x) {d' : Nat} {a0 a1 a2 a3 a4 : Value} {P : Outcome → fxW → Prop} (hd : decode cc pc = .ok (.invokestatic 87, 3)) (hM : fxM G d' y_Lw_set [a0, a1, a2, a3, a4] w P) (hdd : d' < d) (hst : (st.map fun v => v.category).sum ≤ 8) (k1 : ∀ v w', P (.returned v) w' → fxR G nL x Q w' (pc + 3) ls (v.toList ++ st)) (k2 : ∀ a w', P (.threw a) w' → fxRt G nL x Q w' pc ls st a) : fxR G nL x Q w pc ls (a4 :: a3 :: a2 :: a1 :: a0 :: st) := r_callS (As := [a0, a1, a2, a3, a4]) C hd lm_Lw_87 (fxTW_in 280 (by decide +kernel) rfl) w_Lw_set ini_ForkPoolLaw (by decide) np_Lw_set (by decide) hM hdd hst rfl k1 k2
theorem lm_Lw_91 : Cond.methodLink "ForkPoolLaw" 91 y_Lw_get ∈ fxTW := fxTW_in 324 (by decide +kernel) rfl
theorem c_Lw_91 {G : fxG} {d nL : Nat} {cc : ByteArray} {nm : String} {ret : Option FieldType} {hh : List (Nat × Nat × Nat × Nat)} {x : fxX} {Q : State → Prop} {w : fxW} {pc : Nat} {ls : List (Nat × Value)} {st : List Value} (C : fxC G d cc nL "ForkPoolLaw" nm ret hh x) {d' : Nat} {a0 a1 a2 a3 : Value} {P : Outcome → fxW → Prop} (hd : decode cc pc = .ok (.invokestatic 91, 3)) (hM : fxM G d' y_Lw_get [a0, a1, a2, a3] w P) (hdd : d' < d) (hst : (st.map fun v => v.category).sum ≤ 8) (k1 : ∀ v w', P (.returned v) w' → fxR G nL x Q w' (pc + 3) ls (v.toList ++ st)) (k2 : ∀ a w', P (.threw a) w' → fxRt G nL x Q w' pc ls st a) : fxR G nL x Q w pc ls (a3 :: a2 :: a1 :: a0 :: st) := r_callS (As := [a0, a1, a2, a3]) C hd lm_Lw_91 (fxTW_in 325 (by decide +kernel) rfl) w_Lw_get ini_ForkPoolLaw (by decide) np_Lw_get (by decide) hM hdd hst rfl k1 k2
theorem lm_Lw_95 : Cond.methodLink "ForkPoolLaw" 95 y_Lw_begin ∈ fxTW := fxTW_in 331 (by decide +kernel) rfl
theorem c_Lw_95 {G : fxG} {d nL : Nat} {cc : ByteArray} {nm : String} {ret : Option FieldType} {hh : List (Nat × Nat × Nat × Nat)} {x : fxX} {Q : State → Prop} {w : fxW} {pc : Nat} {ls : List (Nat × Value)} {st : List Value} (C : fxC G d cc nL "ForkPoolLaw" nm ret hh x) {d' : Nat} {a0 a1 a2 a3 a4 a5 a6 : Value} {P : Outcome → fxW → Prop} (hd : decode cc pc = .ok (.invokestatic 95, 3)) (hM : fxM G d' y_Lw_begin [a0, a1, a2, a3, a4, a5, a6] w P) (hdd : d' < d) (hst : (st.map fun v => v.category).sum ≤ 8) (k1 : ∀ v w', P (.returned v) w' → fxR G nL x Q w' (pc + 3) ls (v.toList ++ st)) (k2 : ∀ a w', P (.threw a) w' → fxRt G nL x Q w' pc ls st a) : fxR G nL x Q w pc ls (a6 :: a5 :: a4 :: a3 :: a2 :: a1 :: a0 :: st) := r_callS (As := [a0, a1, a2, a3, a4, a5, a6]) C hd lm_Lw_95 (fxTW_in 332 (by decide +kernel) rfl) w_Lw_begin ini_ForkPoolLaw (by decide) np_Lw_begin (by decide) hM hdd hst rfl k1 k2
theorem lm_Lw_99 : Cond.methodLink "ForkPoolLaw" 99 y_Lw_step ∈ fxTW := fxTW_in 492 (by decide +kernel) rfl
theorem c_Lw_99 {G : fxG} {d nL : Nat} {cc : ByteArray} {nm : String} {ret : Option FieldType} {hh : List (Nat × Nat × Nat × Nat)} {x : fxX} {Q : State → Prop} {w : fxW} {pc : Nat} {ls : List (Nat × Value)} {st : List Value} (C : fxC G d cc nL "ForkPoolLaw" nm ret hh x) {d' : Nat} {a0 a1 a2 : Value} {P : Outcome → fxW → Prop} (hd : decode cc pc = .ok (.invokestatic 99, 3)) (hM : fxM G d' y_Lw_step [a0, a1, a2] w P) (hdd : d' < d) (hst : (st.map fun v => v.category).sum ≤ 8) (k1 : ∀ v w', P (.returned v) w' → fxR G nL x Q w' (pc + 3) ls (v.toList ++ st)) (k2 : ∀ a w', P (.threw a) w' → fxRt G nL x Q w' pc ls st a) : fxR G nL x Q w pc ls (a2 :: a1 :: a0 :: st) := r_callS (As := [a0, a1, a2]) C hd lm_Lw_99 (fxTW_in 493 (by decide +kernel) rfl) w_Lw_step ini_ForkPoolLaw (by decide) np_Lw_step (by decide) hM hdd hst rfl k1 k2
theorem lm_Lw_103 : Cond.methodLink "ForkPoolLaw" 103 y_Lw_join ∈ fxTW := fxTW_in 628 (by decide +kernel) rfl
theorem c_Lw_103 {G : fxG} {d nL : Nat} {cc : ByteArray} {nm : String} {ret : Option FieldType} {hh : List (Nat × Nat × Nat × Nat)} {x : fxX} {Q : State → Prop} {w : fxW} {pc : Nat} {ls : List (Nat × Value)} {st : List Value} (C : fxC G d cc nL "ForkPoolLaw" nm ret hh x) {d' : Nat} {a0 a1 a2 : Value} {P : Outcome → fxW → Prop} (hd : decode cc pc = .ok (.invokestatic 103, 3)) (hM : fxM G d' y_Lw_join [a0, a1, a2] w P) (hdd : d' < d) (hst : (st.map fun v => v.category).sum ≤ 8) (k1 : ∀ v w', P (.returned v) w' → fxR G nL x Q w' (pc + 3) ls (v.toList ++ st)) (k2 : ∀ a w', P (.threw a) w' → fxRt G nL x Q w' pc ls st a) : fxR G nL x Q w pc ls (a2 :: a1 :: a0 :: st) := r_callS (As := [a0, a1, a2]) C hd lm_Lw_103 (fxTW_in 629 (by decide +kernel) rfl) w_Lw_join ini_ForkPoolLaw (by decide) np_Lw_join (by decide) hM hdd hst rfl k1 k2
theorem lm_Lw_106 : Cond.methodLink "ForkPoolLaw" 106 y_Lw_result ∈ fxTW := fxTW_in 658 (by decide +kernel) rfl
theorem c_Lw_106 {G : fxG} {d nL : Nat} {cc : ByteArray} {nm : String} {ret : Option FieldType} {hh : List (Nat × Nat × Nat × Nat)} {x : fxX} {Q : State → Prop} {w : fxW} {pc : Nat} {ls : List (Nat × Value)} {st : List Value} (C : fxC G d cc nL "ForkPoolLaw" nm ret hh x) {d' : Nat} {a0 a1 a2 : Value} {P : Outcome → fxW → Prop} (hd : decode cc pc = .ok (.invokestatic 106, 3)) (hM : fxM G d' y_Lw_result [a0, a1, a2] w P) (hdd : d' < d) (hst : (st.map fun v => v.category).sum ≤ 8) (k1 : ∀ v w', P (.returned v) w' → fxR G nL x Q w' (pc + 3) ls (v.toList ++ st)) (k2 : ∀ a w', P (.threw a) w' → fxRt G nL x Q w' pc ls st a) : fxR G nL x Q w pc ls (a2 :: a1 :: a0 :: st) := r_callS (As := [a0, a1, a2]) C hd lm_Lw_106 (fxTW_in 659 (by decide +kernel) rfl) w_Lw_result ini_ForkPoolLaw (by decide) np_Lw_result (by decide) hM hdd hst rfl k1 k2
theorem lm_Lw_109 : Cond.methodLink "ForkPoolLaw" 109 y_Lw_cancel ∈ fxTW := fxTW_in 683 (by decide +kernel) rfl
theorem c_Lw_109 {G : fxG} {d nL : Nat} {cc : ByteArray} {nm : String} {ret : Option FieldType} {hh : List (Nat × Nat × Nat × Nat)} {x : fxX} {Q : State → Prop} {w : fxW} {pc : Nat} {ls : List (Nat × Value)} {st : List Value} (C : fxC G d cc nL "ForkPoolLaw" nm ret hh x) {d' : Nat} {a0 a1 a2 : Value} {P : Outcome → fxW → Prop} (hd : decode cc pc = .ok (.invokestatic 109, 3)) (hM : fxM G d' y_Lw_cancel [a0, a1, a2] w P) (hdd : d' < d) (hst : (st.map fun v => v.category).sum ≤ 8) (k1 : ∀ v w', P (.returned v) w' → fxR G nL x Q w' (pc + 3) ls (v.toList ++ st)) (k2 : ∀ a w', P (.threw a) w' → fxRt G nL x Q w' pc ls st a) : fxR G nL x Q w pc ls (a2 :: a1 :: a0 :: st) := r_callS (As := [a0, a1, a2]) C hd lm_Lw_109 (fxTW_in 684 (by decide +kernel) rfl) w_Lw_cancel ini_ForkPoolLaw (by decide) np_Lw_cancel (by decide) hM hdd hst rfl k1 k2
theorem lm_Lw_112 : Cond.methodLink "ForkPoolLaw" 112 y_Lw_job ∈ fxTW := fxTW_in 699 (by decide +kernel) rfl
theorem c_Lw_112 {G : fxG} {d nL : Nat} {cc : ByteArray} {nm : String} {ret : Option FieldType} {hh : List (Nat × Nat × Nat × Nat)} {x : fxX} {Q : State → Prop} {w : fxW} {pc : Nat} {ls : List (Nat × Value)} {st : List Value} (C : fxC G d cc nL "ForkPoolLaw" nm ret hh x) {d' : Nat} {a0 a1 a2 a3 : Value} {P : Outcome → fxW → Prop} (hd : decode cc pc = .ok (.invokestatic 112, 3)) (hM : fxM G d' y_Lw_job [a0, a1, a2, a3] w P) (hdd : d' < d) (hst : (st.map fun v => v.category).sum ≤ 8) (k1 : ∀ v w', P (.returned v) w' → fxR G nL x Q w' (pc + 3) ls (v.toList ++ st)) (k2 : ∀ a w', P (.threw a) w' → fxRt G nL x Q w' pc ls st a) : fxR G nL x Q w pc ls (a3 :: a2 :: a1 :: a0 :: st) := r_callS (As := [a0, a1, a2, a3]) C hd lm_Lw_112 (fxTW_in 700 (by decide +kernel) rfl) w_Lw_job ini_ForkPoolLaw (by decide) np_Lw_job (by decide) hM hdd hst rfl k1 k2
theorem lm_Lw_115 : Cond.methodLink "ForkPoolLaw" 115 y_Lw_task ∈ fxTW := fxTW_in 707 (by decide +kernel) rfl
theorem c_Lw_115 {G : fxG} {d nL : Nat} {cc : ByteArray} {nm : String} {ret : Option FieldType} {hh : List (Nat × Nat × Nat × Nat)} {x : fxX} {Q : State → Prop} {w : fxW} {pc : Nat} {ls : List (Nat × Value)} {st : List Value} (C : fxC G d cc nL "ForkPoolLaw" nm ret hh x) {d' : Nat} {a0 a1 a2 a3 a4 : Value} {P : Outcome → fxW → Prop} (hd : decode cc pc = .ok (.invokestatic 115, 3)) (hM : fxM G d' y_Lw_task [a0, a1, a2, a3, a4] w P) (hdd : d' < d) (hst : (st.map fun v => v.category).sum ≤ 8) (k1 : ∀ v w', P (.returned v) w' → fxR G nL x Q w' (pc + 3) ls (v.toList ++ st)) (k2 : ∀ a w', P (.threw a) w' → fxRt G nL x Q w' pc ls st a) : fxR G nL x Q w pc ls (a4 :: a3 :: a2 :: a1 :: a0 :: st) := r_callS (As := [a0, a1, a2, a3, a4]) C hd lm_Lw_115 (fxTW_in 708 (by decide +kernel) rfl) w_Lw_task ini_ForkPoolLaw (by decide) np_Lw_task (by decide) hM hdd hst rfl k1 k2
theorem lm_Lw_118 : Cond.methodLink "ForkPoolLaw" 118 y_Lw_worker ∈ fxTW := fxTW_in 725 (by decide +kernel) rfl
theorem c_Lw_118 {G : fxG} {d nL : Nat} {cc : ByteArray} {nm : String} {ret : Option FieldType} {hh : List (Nat × Nat × Nat × Nat)} {x : fxX} {Q : State → Prop} {w : fxW} {pc : Nat} {ls : List (Nat × Value)} {st : List Value} (C : fxC G d cc nL "ForkPoolLaw" nm ret hh x) {d' : Nat} {a0 a1 a2 a3 : Value} {P : Outcome → fxW → Prop} (hd : decode cc pc = .ok (.invokestatic 118, 3)) (hM : fxM G d' y_Lw_worker [a0, a1, a2, a3] w P) (hdd : d' < d) (hst : (st.map fun v => v.category).sum ≤ 8) (k1 : ∀ v w', P (.returned v) w' → fxR G nL x Q w' (pc + 3) ls (v.toList ++ st)) (k2 : ∀ a w', P (.threw a) w' → fxRt G nL x Q w' pc ls st a) : fxR G nL x Q w pc ls (a3 :: a2 :: a1 :: a0 :: st) := r_callS (As := [a0, a1, a2, a3]) C hd lm_Lw_118 (fxTW_in 726 (by decide +kernel) rfl) w_Lw_worker ini_ForkPoolLaw (by decide) np_Lw_worker (by decide) hM hdd hst rfl k1 k2
theorem lm_Lw_121 : Cond.methodLink "ForkPoolLaw" 121 y_Lw_grain ∈ fxTW := fxTW_in 733 (by decide +kernel) rfl
theorem c_Lw_121 {G : fxG} {d nL : Nat} {cc : ByteArray} {nm : String} {ret : Option FieldType} {hh : List (Nat × Nat × Nat × Nat)} {x : fxX} {Q : State → Prop} {w : fxW} {pc : Nat} {ls : List (Nat × Value)} {st : List Value} (C : fxC G d cc nL "ForkPoolLaw" nm ret hh x) {d' : Nat} {a0 a1 a2 : Value} {P : Outcome → fxW → Prop} (hd : decode cc pc = .ok (.invokestatic 121, 3)) (hM : fxM G d' y_Lw_grain [a0, a1, a2] w P) (hdd : d' < d) (hst : (st.map fun v => v.category).sum ≤ 8) (k1 : ∀ v w', P (.returned v) w' → fxR G nL x Q w' (pc + 3) ls (v.toList ++ st)) (k2 : ∀ a w', P (.threw a) w' → fxRt G nL x Q w' pc ls st a) : fxR G nL x Q w pc ls (a2 :: a1 :: a0 :: st) := r_callS (As := [a0, a1, a2]) C hd lm_Lw_121 (fxTW_in 734 (by decide +kernel) rfl) w_Lw_grain ini_ForkPoolLaw (by decide) np_Lw_grain (by decide) hM hdd hst rfl k1 k2
theorem lm_Lw_124 : Cond.methodLink "ForkPoolLaw" 124 y_Lw_count ∈ fxTW := fxTW_in 741 (by decide +kernel) rfl
theorem c_Lw_124 {G : fxG} {d nL : Nat} {cc : ByteArray} {nm : String} {ret : Option FieldType} {hh : List (Nat × Nat × Nat × Nat)} {x : fxX} {Q : State → Prop} {w : fxW} {pc : Nat} {ls : List (Nat × Value)} {st : List Value} (C : fxC G d cc nL "ForkPoolLaw" nm ret hh x) {d' : Nat} {a0 a1 a2 : Value} {P : Outcome → fxW → Prop} (hd : decode cc pc = .ok (.invokestatic 124, 3)) (hM : fxM G d' y_Lw_count [a0, a1, a2] w P) (hdd : d' < d) (hst : (st.map fun v => v.category).sum ≤ 8) (k1 : ∀ v w', P (.returned v) w' → fxR G nL x Q w' (pc + 3) ls (v.toList ++ st)) (k2 : ∀ a w', P (.threw a) w' → fxRt G nL x Q w' pc ls st a) : fxR G nL x Q w pc ls (a2 :: a1 :: a0 :: st) := r_callS (As := [a0, a1, a2]) C hd lm_Lw_124 (fxTW_in 742 (by decide +kernel) rfl) w_Lw_count ini_ForkPoolLaw (by decide) np_Lw_count (by decide) hM hdd hst rfl k1 k2
theorem lm_Lw_7 : Cond.methodLink "ForkPoolLaw" 7 y_FP_array ∈ fxTW := fxTW_in 178 (by decide +kernel) rfl
theorem c_Lw_7 {G : fxG} {d nL : Nat} {cc : ByteArray} {nm : String} {ret : Option FieldType} {hh : List (Nat × Nat × Nat × Nat)} {x : fxX} {Q : State → Prop} {w : fxW} {pc : Nat} {ls : List (Nat × Value)} {st : List Value} (C : fxC G d cc nL "ForkPoolLaw" nm ret hh x) {b n0 d' : Nat} {a0 a1 a2 : Value} {P : Outcome → fxW → Prop} (hd : decode cc pc = .ok (.invokevirtual 7, 3)) (hb9 : fxk w b = some (0, n0)) (hM : fxM G d' y_FP_array (.ref b :: [a0, a1, a2]) w P) (hdd : d' < d) (hst : (st.map fun v => v.category).sum ≤ 8) (k1 : ∀ v w', P (.returned v) w' → fxR G nL x Q w' (pc + 3) ls (v.toList ++ st)) (k2 : ∀ a w', P (.threw a) w' → fxRt G nL x Q w' pc ls st a) : fxR G nL x Q w pc ls (a2 :: a1 :: a0 :: .ref b :: st) := r_callV (As := [a0, a1, a2]) (Cn := "ForkPool") (ci := 0) C hd lm_Lw_7 (fxTW_in 179 (by decide +kernel) rfl) (fxTW_in 180 (by decide +kernel) rfl) w_FP_array ini_ForkPool (by decide) np_FP_array (by decide) (by decide) rfl hb9 hM hdd hst rfl k1 k2
theorem lm_Lw_17 : Cond.methodLink "ForkPoolLaw" 17 y_FP_set ∈ fxTW := fxTW_in 283 (by decide +kernel) rfl
theorem c_Lw_17 {G : fxG} {d nL : Nat} {cc : ByteArray} {nm : String} {ret : Option FieldType} {hh : List (Nat × Nat × Nat × Nat)} {x : fxX} {Q : State → Prop} {w : fxW} {pc : Nat} {ls : List (Nat × Value)} {st : List Value} (C : fxC G d cc nL "ForkPoolLaw" nm ret hh x) {b n0 d' : Nat} {a0 a1 a2 : Value} {P : Outcome → fxW → Prop} (hd : decode cc pc = .ok (.invokevirtual 17, 3)) (hb9 : fxk w b = some (0, n0)) (hM : fxM G d' y_FP_set (.ref b :: [a0, a1, a2]) w P) (hdd : d' < d) (hst : (st.map fun v => v.category).sum ≤ 8) (k1 : ∀ v w', P (.returned v) w' → fxR G nL x Q w' (pc + 3) ls (v.toList ++ st)) (k2 : ∀ a w', P (.threw a) w' → fxRt G nL x Q w' pc ls st a) : fxR G nL x Q w pc ls (a2 :: a1 :: a0 :: .ref b :: st) := r_callV (As := [a0, a1, a2]) (Cn := "ForkPool") (ci := 0) C hd lm_Lw_17 (fxTW_in 284 (by decide +kernel) rfl) (fxTW_in 285 (by decide +kernel) rfl) w_FP_set ini_ForkPool (by decide) np_FP_set (by decide) (by decide) rfl hb9 hM hdd hst rfl k1 k2
theorem lm_Lw_23 : Cond.methodLink "ForkPoolLaw" 23 y_FP_get ∈ fxTW := fxTW_in 327 (by decide +kernel) rfl
theorem c_Lw_23 {G : fxG} {d nL : Nat} {cc : ByteArray} {nm : String} {ret : Option FieldType} {hh : List (Nat × Nat × Nat × Nat)} {x : fxX} {Q : State → Prop} {w : fxW} {pc : Nat} {ls : List (Nat × Value)} {st : List Value} (C : fxC G d cc nL "ForkPoolLaw" nm ret hh x) {b n0 d' : Nat} {a0 a1 : Value} {P : Outcome → fxW → Prop} (hd : decode cc pc = .ok (.invokevirtual 23, 3)) (hb9 : fxk w b = some (0, n0)) (hM : fxM G d' y_FP_get (.ref b :: [a0, a1]) w P) (hdd : d' < d) (hst : (st.map fun v => v.category).sum ≤ 8) (k1 : ∀ v w', P (.returned v) w' → fxR G nL x Q w' (pc + 3) ls (v.toList ++ st)) (k2 : ∀ a w', P (.threw a) w' → fxRt G nL x Q w' pc ls st a) : fxR G nL x Q w pc ls (a1 :: a0 :: .ref b :: st) := r_callV (As := [a0, a1]) (Cn := "ForkPool") (ci := 0) C hd lm_Lw_23 (fxTW_in 328 (by decide +kernel) rfl) (fxTW_in 329 (by decide +kernel) rfl) w_FP_get ini_ForkPool (by decide) np_FP_get (by decide) (by decide) rfl hb9 hM hdd hst rfl k1 k2
theorem lm_Lw_27 : Cond.methodLink "ForkPoolLaw" 27 y_FP_begin ∈ fxTW := fxTW_in 334 (by decide +kernel) rfl
theorem c_Lw_27 {G : fxG} {d nL : Nat} {cc : ByteArray} {nm : String} {ret : Option FieldType} {hh : List (Nat × Nat × Nat × Nat)} {x : fxX} {Q : State → Prop} {w : fxW} {pc : Nat} {ls : List (Nat × Value)} {st : List Value} (C : fxC G d cc nL "ForkPoolLaw" nm ret hh x) {b n0 d' : Nat} {a0 a1 a2 a3 a4 : Value} {P : Outcome → fxW → Prop} (hd : decode cc pc = .ok (.invokevirtual 27, 3)) (hb9 : fxk w b = some (0, n0)) (hM : fxM G d' y_FP_begin (.ref b :: [a0, a1, a2, a3, a4]) w P) (hdd : d' < d) (hst : (st.map fun v => v.category).sum ≤ 8) (k1 : ∀ v w', P (.returned v) w' → fxR G nL x Q w' (pc + 3) ls (v.toList ++ st)) (k2 : ∀ a w', P (.threw a) w' → fxRt G nL x Q w' pc ls st a) : fxR G nL x Q w pc ls (a4 :: a3 :: a2 :: a1 :: a0 :: .ref b :: st) := r_callV (As := [a0, a1, a2, a3, a4]) (Cn := "ForkPool") (ci := 0) C hd lm_Lw_27 (fxTW_in 335 (by decide +kernel) rfl) (fxTW_in 336 (by decide +kernel) rfl) w_FP_begin ini_ForkPool (by decide) np_FP_begin (by decide) (by decide) rfl hb9 hM hdd hst rfl k1 k2
theorem lm_Lw_31 : Cond.methodLink "ForkPoolLaw" 31 y_FP_step ∈ fxTW := fxTW_in 495 (by decide +kernel) rfl
theorem c_Lw_31 {G : fxG} {d nL : Nat} {cc : ByteArray} {nm : String} {ret : Option FieldType} {hh : List (Nat × Nat × Nat × Nat)} {x : fxX} {Q : State → Prop} {w : fxW} {pc : Nat} {ls : List (Nat × Value)} {st : List Value} (C : fxC G d cc nL "ForkPoolLaw" nm ret hh x) {b n0 d' : Nat} {a0 : Value} {P : Outcome → fxW → Prop} (hd : decode cc pc = .ok (.invokevirtual 31, 3)) (hb9 : fxk w b = some (0, n0)) (hM : fxM G d' y_FP_step (.ref b :: [a0]) w P) (hdd : d' < d) (hst : (st.map fun v => v.category).sum ≤ 8) (k1 : ∀ v w', P (.returned v) w' → fxR G nL x Q w' (pc + 3) ls (v.toList ++ st)) (k2 : ∀ a w', P (.threw a) w' → fxRt G nL x Q w' pc ls st a) : fxR G nL x Q w pc ls (a0 :: .ref b :: st) := r_callV (As := [a0]) (Cn := "ForkPool") (ci := 0) C hd lm_Lw_31 (fxTW_in 496 (by decide +kernel) rfl) (fxTW_in 497 (by decide +kernel) rfl) w_FP_step ini_ForkPool (by decide) np_FP_step (by decide) (by decide) rfl hb9 hM hdd hst rfl k1 k2
theorem lm_Lw_35 : Cond.methodLink "ForkPoolLaw" 35 y_FP_join ∈ fxTW := fxTW_in 632 (by decide +kernel) rfl
theorem c_Lw_35 {G : fxG} {d nL : Nat} {cc : ByteArray} {nm : String} {ret : Option FieldType} {hh : List (Nat × Nat × Nat × Nat)} {x : fxX} {Q : State → Prop} {w : fxW} {pc : Nat} {ls : List (Nat × Value)} {st : List Value} (C : fxC G d cc nL "ForkPoolLaw" nm ret hh x) {b n0 d' : Nat} {a0 : Value} {P : Outcome → fxW → Prop} (hd : decode cc pc = .ok (.invokevirtual 35, 3)) (hb9 : fxk w b = some (0, n0)) (hM : fxM G d' y_FP_join (.ref b :: [a0]) w P) (hdd : d' < d) (hst : (st.map fun v => v.category).sum ≤ 8) (k1 : ∀ v w', P (.returned v) w' → fxR G nL x Q w' (pc + 3) ls (v.toList ++ st)) (k2 : ∀ a w', P (.threw a) w' → fxRt G nL x Q w' pc ls st a) : fxR G nL x Q w pc ls (a0 :: .ref b :: st) := r_callV (As := [a0]) (Cn := "ForkPool") (ci := 0) C hd lm_Lw_35 (fxTW_in 633 (by decide +kernel) rfl) (fxTW_in 634 (by decide +kernel) rfl) w_FP_join ini_ForkPool (by decide) np_FP_join (by decide) (by decide) rfl hb9 hM hdd hst rfl k1 k2
theorem lm_Lw_40 : Cond.methodLink "ForkPoolLaw" 40 y_FP_result ∈ fxTW := fxTW_in 662 (by decide +kernel) rfl
theorem c_Lw_40 {G : fxG} {d nL : Nat} {cc : ByteArray} {nm : String} {ret : Option FieldType} {hh : List (Nat × Nat × Nat × Nat)} {x : fxX} {Q : State → Prop} {w : fxW} {pc : Nat} {ls : List (Nat × Value)} {st : List Value} (C : fxC G d cc nL "ForkPoolLaw" nm ret hh x) {b n0 d' : Nat} {a0 : Value} {P : Outcome → fxW → Prop} (hd : decode cc pc = .ok (.invokevirtual 40, 3)) (hb9 : fxk w b = some (0, n0)) (hM : fxM G d' y_FP_result (.ref b :: [a0]) w P) (hdd : d' < d) (hst : (st.map fun v => v.category).sum ≤ 8) (k1 : ∀ v w', P (.returned v) w' → fxR G nL x Q w' (pc + 3) ls (v.toList ++ st)) (k2 : ∀ a w', P (.threw a) w' → fxRt G nL x Q w' pc ls st a) : fxR G nL x Q w pc ls (a0 :: .ref b :: st) := r_callV (As := [a0]) (Cn := "ForkPool") (ci := 0) C hd lm_Lw_40 (fxTW_in 663 (by decide +kernel) rfl) (fxTW_in 664 (by decide +kernel) rfl) w_FP_result ini_ForkPool (by decide) np_FP_result (by decide) (by decide) rfl hb9 hM hdd hst rfl k1 k2
theorem lm_Lw_46 : Cond.methodLink "ForkPoolLaw" 46 y_FP_cancel ∈ fxTW := fxTW_in 686 (by decide +kernel) rfl
theorem c_Lw_46 {G : fxG} {d nL : Nat} {cc : ByteArray} {nm : String} {ret : Option FieldType} {hh : List (Nat × Nat × Nat × Nat)} {x : fxX} {Q : State → Prop} {w : fxW} {pc : Nat} {ls : List (Nat × Value)} {st : List Value} (C : fxC G d cc nL "ForkPoolLaw" nm ret hh x) {b n0 d' : Nat} {a0 : Value} {P : Outcome → fxW → Prop} (hd : decode cc pc = .ok (.invokevirtual 46, 3)) (hb9 : fxk w b = some (0, n0)) (hM : fxM G d' y_FP_cancel (.ref b :: [a0]) w P) (hdd : d' < d) (hst : (st.map fun v => v.category).sum ≤ 8) (k1 : ∀ v w', P (.returned v) w' → fxR G nL x Q w' (pc + 3) ls (v.toList ++ st)) (k2 : ∀ a w', P (.threw a) w' → fxRt G nL x Q w' pc ls st a) : fxR G nL x Q w pc ls (a0 :: .ref b :: st) := r_callV (As := [a0]) (Cn := "ForkPool") (ci := 0) C hd lm_Lw_46 (fxTW_in 687 (by decide +kernel) rfl) (fxTW_in 688 (by decide +kernel) rfl) w_FP_cancel ini_ForkPool (by decide) np_FP_cancel (by decide) (by decide) rfl hb9 hM hdd hst rfl k1 k2
theorem lm_Lw_49 : Cond.methodLink "ForkPoolLaw" 49 y_FP_job ∈ fxTW := fxTW_in 702 (by decide +kernel) rfl
theorem c_Lw_49 {G : fxG} {d nL : Nat} {cc : ByteArray} {nm : String} {ret : Option FieldType} {hh : List (Nat × Nat × Nat × Nat)} {x : fxX} {Q : State → Prop} {w : fxW} {pc : Nat} {ls : List (Nat × Value)} {st : List Value} (C : fxC G d cc nL "ForkPoolLaw" nm ret hh x) {b n0 d' : Nat} {a0 a1 : Value} {P : Outcome → fxW → Prop} (hd : decode cc pc = .ok (.invokevirtual 49, 3)) (hb9 : fxk w b = some (0, n0)) (hM : fxM G d' y_FP_job (.ref b :: [a0, a1]) w P) (hdd : d' < d) (hst : (st.map fun v => v.category).sum ≤ 8) (k1 : ∀ v w', P (.returned v) w' → fxR G nL x Q w' (pc + 3) ls (v.toList ++ st)) (k2 : ∀ a w', P (.threw a) w' → fxRt G nL x Q w' pc ls st a) : fxR G nL x Q w pc ls (a1 :: a0 :: .ref b :: st) := r_callV (As := [a0, a1]) (Cn := "ForkPool") (ci := 0) C hd lm_Lw_49 (fxTW_in 703 (by decide +kernel) rfl) (fxTW_in 704 (by decide +kernel) rfl) w_FP_job ini_ForkPool (by decide) np_FP_job (by decide) (by decide) rfl hb9 hM hdd hst rfl k1 k2
theorem lm_Lw_53 : Cond.methodLink "ForkPoolLaw" 53 y_FP_task ∈ fxTW := fxTW_in 710 (by decide +kernel) rfl
theorem c_Lw_53 {G : fxG} {d nL : Nat} {cc : ByteArray} {nm : String} {ret : Option FieldType} {hh : List (Nat × Nat × Nat × Nat)} {x : fxX} {Q : State → Prop} {w : fxW} {pc : Nat} {ls : List (Nat × Value)} {st : List Value} (C : fxC G d cc nL "ForkPoolLaw" nm ret hh x) {b n0 d' : Nat} {a0 a1 a2 : Value} {P : Outcome → fxW → Prop} (hd : decode cc pc = .ok (.invokevirtual 53, 3)) (hb9 : fxk w b = some (0, n0)) (hM : fxM G d' y_FP_task (.ref b :: [a0, a1, a2]) w P) (hdd : d' < d) (hst : (st.map fun v => v.category).sum ≤ 8) (k1 : ∀ v w', P (.returned v) w' → fxR G nL x Q w' (pc + 3) ls (v.toList ++ st)) (k2 : ∀ a w', P (.threw a) w' → fxRt G nL x Q w' pc ls st a) : fxR G nL x Q w pc ls (a2 :: a1 :: a0 :: .ref b :: st) := r_callV (As := [a0, a1, a2]) (Cn := "ForkPool") (ci := 0) C hd lm_Lw_53 (fxTW_in 711 (by decide +kernel) rfl) (fxTW_in 712 (by decide +kernel) rfl) w_FP_task ini_ForkPool (by decide) np_FP_task (by decide) (by decide) rfl hb9 hM hdd hst rfl k1 k2
theorem lm_Lw_56 : Cond.methodLink "ForkPoolLaw" 56 y_FP_worker ∈ fxTW := fxTW_in 728 (by decide +kernel) rfl
theorem c_Lw_56 {G : fxG} {d nL : Nat} {cc : ByteArray} {nm : String} {ret : Option FieldType} {hh : List (Nat × Nat × Nat × Nat)} {x : fxX} {Q : State → Prop} {w : fxW} {pc : Nat} {ls : List (Nat × Value)} {st : List Value} (C : fxC G d cc nL "ForkPoolLaw" nm ret hh x) {b n0 d' : Nat} {a0 a1 : Value} {P : Outcome → fxW → Prop} (hd : decode cc pc = .ok (.invokevirtual 56, 3)) (hb9 : fxk w b = some (0, n0)) (hM : fxM G d' y_FP_worker (.ref b :: [a0, a1]) w P) (hdd : d' < d) (hst : (st.map fun v => v.category).sum ≤ 8) (k1 : ∀ v w', P (.returned v) w' → fxR G nL x Q w' (pc + 3) ls (v.toList ++ st)) (k2 : ∀ a w', P (.threw a) w' → fxRt G nL x Q w' pc ls st a) : fxR G nL x Q w pc ls (a1 :: a0 :: .ref b :: st) := r_callV (As := [a0, a1]) (Cn := "ForkPool") (ci := 0) C hd lm_Lw_56 (fxTW_in 729 (by decide +kernel) rfl) (fxTW_in 730 (by decide +kernel) rfl) w_FP_worker ini_ForkPool (by decide) np_FP_worker (by decide) (by decide) rfl hb9 hM hdd hst rfl k1 k2
theorem lm_Lw_59 : Cond.methodLink "ForkPoolLaw" 59 y_FP_grain ∈ fxTW := fxTW_in 736 (by decide +kernel) rfl
theorem c_Lw_59 {G : fxG} {d nL : Nat} {cc : ByteArray} {nm : String} {ret : Option FieldType} {hh : List (Nat × Nat × Nat × Nat)} {x : fxX} {Q : State → Prop} {w : fxW} {pc : Nat} {ls : List (Nat × Value)} {st : List Value} (C : fxC G d cc nL "ForkPoolLaw" nm ret hh x) {b n0 d' : Nat} {a0 : Value} {P : Outcome → fxW → Prop} (hd : decode cc pc = .ok (.invokevirtual 59, 3)) (hb9 : fxk w b = some (0, n0)) (hM : fxM G d' y_FP_grain (.ref b :: [a0]) w P) (hdd : d' < d) (hst : (st.map fun v => v.category).sum ≤ 8) (k1 : ∀ v w', P (.returned v) w' → fxR G nL x Q w' (pc + 3) ls (v.toList ++ st)) (k2 : ∀ a w', P (.threw a) w' → fxRt G nL x Q w' pc ls st a) : fxR G nL x Q w pc ls (a0 :: .ref b :: st) := r_callV (As := [a0]) (Cn := "ForkPool") (ci := 0) C hd lm_Lw_59 (fxTW_in 737 (by decide +kernel) rfl) (fxTW_in 738 (by decide +kernel) rfl) w_FP_grain ini_ForkPool (by decide) np_FP_grain (by decide) (by decide) rfl hb9 hM hdd hst rfl k1 k2
theorem lm_Lw_62 : Cond.methodLink "ForkPoolLaw" 62 y_FP_count ∈ fxTW := fxTW_in 744 (by decide +kernel) rfl
theorem c_Lw_62 {G : fxG} {d nL : Nat} {cc : ByteArray} {nm : String} {ret : Option FieldType} {hh : List (Nat × Nat × Nat × Nat)} {x : fxX} {Q : State → Prop} {w : fxW} {pc : Nat} {ls : List (Nat × Value)} {st : List Value} (C : fxC G d cc nL "ForkPoolLaw" nm ret hh x) {b n0 d' : Nat} {a0 : Value} {P : Outcome → fxW → Prop} (hd : decode cc pc = .ok (.invokevirtual 62, 3)) (hb9 : fxk w b = some (0, n0)) (hM : fxM G d' y_FP_count (.ref b :: [a0]) w P) (hdd : d' < d) (hst : (st.map fun v => v.category).sum ≤ 8) (k1 : ∀ v w', P (.returned v) w' → fxR G nL x Q w' (pc + 3) ls (v.toList ++ st)) (k2 : ∀ a w', P (.threw a) w' → fxRt G nL x Q w' pc ls st a) : fxR G nL x Q w pc ls (a0 :: .ref b :: st) := r_callV (As := [a0]) (Cn := "ForkPool") (ci := 0) C hd lm_Lw_62 (fxTW_in 745 (by decide +kernel) rfl) (fxTW_in 746 (by decide +kernel) rfl) w_FP_count ini_ForkPool (by decide) np_FP_count (by decide) (by decide) rfl hb9 hM hdd hst rfl k1 k2
theorem lm_Lw_80 : Cond.methodLink "ForkPoolLaw" 80 y_Mo_array ∈ fxTW := fxTW_in 860 (by decide +kernel) rfl
theorem c_Lw_80 {G : fxG} {d nL : Nat} {cc : ByteArray} {nm : String} {ret : Option FieldType} {hh : List (Nat × Nat × Nat × Nat)} {x : fxX} {Q : State → Prop} {w : fxW} {pc : Nat} {ls : List (Nat × Value)} {st : List Value} (C : fxC G d cc nL "ForkPoolLaw" nm ret hh x) {b n0 d' : Nat} {a0 a1 a2 : Value} {P : Outcome → fxW → Prop} (hd : decode cc pc = .ok (.invokevirtual 80, 3)) (hb9 : fxk w b = some (6, n0)) (hM : fxM G d' y_Mo_array (.ref b :: [a0, a1, a2]) w P) (hdd : d' < d) (hst : (st.map fun v => v.category).sum ≤ 8) (k1 : ∀ v w', P (.returned v) w' → fxR G nL x Q w' (pc + 3) ls (v.toList ++ st)) (k2 : ∀ a w', P (.threw a) w' → fxRt G nL x Q w' pc ls st a) : fxR G nL x Q w pc ls (a2 :: a1 :: a0 :: .ref b :: st) := r_callV (As := [a0, a1, a2]) (Cn := "ForkPoolModel") (ci := 6) C hd lm_Lw_80 (fxTW_in 861 (by decide +kernel) rfl) (fxTW_in 862 (by decide +kernel) rfl) w_Mo_array ini_ForkPoolModel (by decide) np_Mo_array (by decide) (by decide) rfl hb9 hM hdd hst rfl k1 k2
theorem lm_Lw_81 : Cond.methodLink "ForkPoolLaw" 81 y_Mo_thrown ∈ fxTW := fxTW_in 856 (by decide +kernel) rfl
theorem c_Lw_81 {G : fxG} {d nL : Nat} {cc : ByteArray} {nm : String} {ret : Option FieldType} {hh : List (Nat × Nat × Nat × Nat)} {x : fxX} {Q : State → Prop} {w : fxW} {pc : Nat} {ls : List (Nat × Value)} {st : List Value} (C : fxC G d cc nL "ForkPoolLaw" nm ret hh x) {b n0 d' : Nat} {P : Outcome → fxW → Prop} (hd : decode cc pc = .ok (.invokevirtual 81, 3)) (hb9 : fxk w b = some (6, n0)) (hM : fxM G d' y_Mo_thrown (.ref b :: []) w P) (hdd : d' < d) (hst : (st.map fun v => v.category).sum ≤ 8) (k1 : ∀ v w', P (.returned v) w' → fxR G nL x Q w' (pc + 3) ls (v.toList ++ st)) (k2 : ∀ a w', P (.threw a) w' → fxRt G nL x Q w' pc ls st a) : fxR G nL x Q w pc ls (.ref b :: st) := r_callV (As := []) (Cn := "ForkPoolModel") (ci := 6) C hd lm_Lw_81 (fxTW_in 857 (by decide +kernel) rfl) (fxTW_in 858 (by decide +kernel) rfl) w_Mo_thrown ini_ForkPoolModel (by decide) np_Mo_thrown (by decide) (by decide) rfl hb9 hM hdd hst rfl k1 k2
theorem lm_Lw_90 : Cond.methodLink "ForkPoolLaw" 90 y_Mo_set ∈ fxTW := fxTW_in 875 (by decide +kernel) rfl
theorem c_Lw_90 {G : fxG} {d nL : Nat} {cc : ByteArray} {nm : String} {ret : Option FieldType} {hh : List (Nat × Nat × Nat × Nat)} {x : fxX} {Q : State → Prop} {w : fxW} {pc : Nat} {ls : List (Nat × Value)} {st : List Value} (C : fxC G d cc nL "ForkPoolLaw" nm ret hh x) {b n0 d' : Nat} {a0 a1 a2 : Value} {P : Outcome → fxW → Prop} (hd : decode cc pc = .ok (.invokevirtual 90, 3)) (hb9 : fxk w b = some (6, n0)) (hM : fxM G d' y_Mo_set (.ref b :: [a0, a1, a2]) w P) (hdd : d' < d) (hst : (st.map fun v => v.category).sum ≤ 8) (k1 : ∀ v w', P (.returned v) w' → fxR G nL x Q w' (pc + 3) ls (v.toList ++ st)) (k2 : ∀ a w', P (.threw a) w' → fxRt G nL x Q w' pc ls st a) : fxR G nL x Q w pc ls (a2 :: a1 :: a0 :: .ref b :: st) := r_callV (As := [a0, a1, a2]) (Cn := "ForkPoolModel") (ci := 6) C hd lm_Lw_90 (fxTW_in 876 (by decide +kernel) rfl) (fxTW_in 877 (by decide +kernel) rfl) w_Mo_set ini_ForkPoolModel (by decide) np_Mo_set (by decide) (by decide) rfl hb9 hM hdd hst rfl k1 k2
theorem lm_Lw_94 : Cond.methodLink "ForkPoolLaw" 94 y_Mo_get ∈ fxTW := fxTW_in 888 (by decide +kernel) rfl
theorem c_Lw_94 {G : fxG} {d nL : Nat} {cc : ByteArray} {nm : String} {ret : Option FieldType} {hh : List (Nat × Nat × Nat × Nat)} {x : fxX} {Q : State → Prop} {w : fxW} {pc : Nat} {ls : List (Nat × Value)} {st : List Value} (C : fxC G d cc nL "ForkPoolLaw" nm ret hh x) {b n0 d' : Nat} {a0 a1 : Value} {P : Outcome → fxW → Prop} (hd : decode cc pc = .ok (.invokevirtual 94, 3)) (hb9 : fxk w b = some (6, n0)) (hM : fxM G d' y_Mo_get (.ref b :: [a0, a1]) w P) (hdd : d' < d) (hst : (st.map fun v => v.category).sum ≤ 8) (k1 : ∀ v w', P (.returned v) w' → fxR G nL x Q w' (pc + 3) ls (v.toList ++ st)) (k2 : ∀ a w', P (.threw a) w' → fxRt G nL x Q w' pc ls st a) : fxR G nL x Q w pc ls (a1 :: a0 :: .ref b :: st) := r_callV (As := [a0, a1]) (Cn := "ForkPoolModel") (ci := 6) C hd lm_Lw_94 (fxTW_in 889 (by decide +kernel) rfl) (fxTW_in 890 (by decide +kernel) rfl) w_Mo_get ini_ForkPoolModel (by decide) np_Mo_get (by decide) (by decide) rfl hb9 hM hdd hst rfl k1 k2
theorem lm_Lw_98 : Cond.methodLink "ForkPoolLaw" 98 y_Mo_begin ∈ fxTW := fxTW_in 892 (by decide +kernel) rfl
theorem c_Lw_98 {G : fxG} {d nL : Nat} {cc : ByteArray} {nm : String} {ret : Option FieldType} {hh : List (Nat × Nat × Nat × Nat)} {x : fxX} {Q : State → Prop} {w : fxW} {pc : Nat} {ls : List (Nat × Value)} {st : List Value} (C : fxC G d cc nL "ForkPoolLaw" nm ret hh x) {b n0 d' : Nat} {a0 a1 a2 a3 a4 : Value} {P : Outcome → fxW → Prop} (hd : decode cc pc = .ok (.invokevirtual 98, 3)) (hb9 : fxk w b = some (6, n0)) (hM : fxM G d' y_Mo_begin (.ref b :: [a0, a1, a2, a3, a4]) w P) (hdd : d' < d) (hst : (st.map fun v => v.category).sum ≤ 8) (k1 : ∀ v w', P (.returned v) w' → fxR G nL x Q w' (pc + 3) ls (v.toList ++ st)) (k2 : ∀ a w', P (.threw a) w' → fxRt G nL x Q w' pc ls st a) : fxR G nL x Q w pc ls (a4 :: a3 :: a2 :: a1 :: a0 :: .ref b :: st) := r_callV (As := [a0, a1, a2, a3, a4]) (Cn := "ForkPoolModel") (ci := 6) C hd lm_Lw_98 (fxTW_in 893 (by decide +kernel) rfl) (fxTW_in 894 (by decide +kernel) rfl) w_Mo_begin ini_ForkPoolModel (by decide) np_Mo_begin (by decide) (by decide) rfl hb9 hM hdd hst rfl k1 k2
theorem lm_Lw_102 : Cond.methodLink "ForkPoolLaw" 102 y_Mo_step ∈ fxTW := fxTW_in 904 (by decide +kernel) rfl
theorem c_Lw_102 {G : fxG} {d nL : Nat} {cc : ByteArray} {nm : String} {ret : Option FieldType} {hh : List (Nat × Nat × Nat × Nat)} {x : fxX} {Q : State → Prop} {w : fxW} {pc : Nat} {ls : List (Nat × Value)} {st : List Value} (C : fxC G d cc nL "ForkPoolLaw" nm ret hh x) {b n0 d' : Nat} {a0 : Value} {P : Outcome → fxW → Prop} (hd : decode cc pc = .ok (.invokevirtual 102, 3)) (hb9 : fxk w b = some (6, n0)) (hM : fxM G d' y_Mo_step (.ref b :: [a0]) w P) (hdd : d' < d) (hst : (st.map fun v => v.category).sum ≤ 8) (k1 : ∀ v w', P (.returned v) w' → fxR G nL x Q w' (pc + 3) ls (v.toList ++ st)) (k2 : ∀ a w', P (.threw a) w' → fxRt G nL x Q w' pc ls st a) : fxR G nL x Q w pc ls (a0 :: .ref b :: st) := r_callV (As := [a0]) (Cn := "ForkPoolModel") (ci := 6) C hd lm_Lw_102 (fxTW_in 905 (by decide +kernel) rfl) (fxTW_in 906 (by decide +kernel) rfl) w_Mo_step ini_ForkPoolModel (by decide) np_Mo_step (by decide) (by decide) rfl hb9 hM hdd hst rfl k1 k2
theorem lm_Lw_105 : Cond.methodLink "ForkPoolLaw" 105 y_Mo_join ∈ fxTW := fxTW_in 965 (by decide +kernel) rfl
theorem c_Lw_105 {G : fxG} {d nL : Nat} {cc : ByteArray} {nm : String} {ret : Option FieldType} {hh : List (Nat × Nat × Nat × Nat)} {x : fxX} {Q : State → Prop} {w : fxW} {pc : Nat} {ls : List (Nat × Value)} {st : List Value} (C : fxC G d cc nL "ForkPoolLaw" nm ret hh x) {b n0 d' : Nat} {a0 : Value} {P : Outcome → fxW → Prop} (hd : decode cc pc = .ok (.invokevirtual 105, 3)) (hb9 : fxk w b = some (6, n0)) (hM : fxM G d' y_Mo_join (.ref b :: [a0]) w P) (hdd : d' < d) (hst : (st.map fun v => v.category).sum ≤ 8) (k1 : ∀ v w', P (.returned v) w' → fxR G nL x Q w' (pc + 3) ls (v.toList ++ st)) (k2 : ∀ a w', P (.threw a) w' → fxRt G nL x Q w' pc ls st a) : fxR G nL x Q w pc ls (a0 :: .ref b :: st) := r_callV (As := [a0]) (Cn := "ForkPoolModel") (ci := 6) C hd lm_Lw_105 (fxTW_in 966 (by decide +kernel) rfl) (fxTW_in 967 (by decide +kernel) rfl) w_Mo_join ini_ForkPoolModel (by decide) np_Mo_join (by decide) (by decide) rfl hb9 hM hdd hst rfl k1 k2
theorem lm_Lw_108 : Cond.methodLink "ForkPoolLaw" 108 y_Mo_result ∈ fxTW := fxTW_in 973 (by decide +kernel) rfl
theorem c_Lw_108 {G : fxG} {d nL : Nat} {cc : ByteArray} {nm : String} {ret : Option FieldType} {hh : List (Nat × Nat × Nat × Nat)} {x : fxX} {Q : State → Prop} {w : fxW} {pc : Nat} {ls : List (Nat × Value)} {st : List Value} (C : fxC G d cc nL "ForkPoolLaw" nm ret hh x) {b n0 d' : Nat} {a0 : Value} {P : Outcome → fxW → Prop} (hd : decode cc pc = .ok (.invokevirtual 108, 3)) (hb9 : fxk w b = some (6, n0)) (hM : fxM G d' y_Mo_result (.ref b :: [a0]) w P) (hdd : d' < d) (hst : (st.map fun v => v.category).sum ≤ 8) (k1 : ∀ v w', P (.returned v) w' → fxR G nL x Q w' (pc + 3) ls (v.toList ++ st)) (k2 : ∀ a w', P (.threw a) w' → fxRt G nL x Q w' pc ls st a) : fxR G nL x Q w pc ls (a0 :: .ref b :: st) := r_callV (As := [a0]) (Cn := "ForkPoolModel") (ci := 6) C hd lm_Lw_108 (fxTW_in 974 (by decide +kernel) rfl) (fxTW_in 975 (by decide +kernel) rfl) w_Mo_result ini_ForkPoolModel (by decide) np_Mo_result (by decide) (by decide) rfl hb9 hM hdd hst rfl k1 k2
theorem lm_Lw_111 : Cond.methodLink "ForkPoolLaw" 111 y_Mo_cancel ∈ fxTW := fxTW_in 977 (by decide +kernel) rfl
theorem c_Lw_111 {G : fxG} {d nL : Nat} {cc : ByteArray} {nm : String} {ret : Option FieldType} {hh : List (Nat × Nat × Nat × Nat)} {x : fxX} {Q : State → Prop} {w : fxW} {pc : Nat} {ls : List (Nat × Value)} {st : List Value} (C : fxC G d cc nL "ForkPoolLaw" nm ret hh x) {b n0 d' : Nat} {a0 : Value} {P : Outcome → fxW → Prop} (hd : decode cc pc = .ok (.invokevirtual 111, 3)) (hb9 : fxk w b = some (6, n0)) (hM : fxM G d' y_Mo_cancel (.ref b :: [a0]) w P) (hdd : d' < d) (hst : (st.map fun v => v.category).sum ≤ 8) (k1 : ∀ v w', P (.returned v) w' → fxR G nL x Q w' (pc + 3) ls (v.toList ++ st)) (k2 : ∀ a w', P (.threw a) w' → fxRt G nL x Q w' pc ls st a) : fxR G nL x Q w pc ls (a0 :: .ref b :: st) := r_callV (As := [a0]) (Cn := "ForkPoolModel") (ci := 6) C hd lm_Lw_111 (fxTW_in 978 (by decide +kernel) rfl) (fxTW_in 979 (by decide +kernel) rfl) w_Mo_cancel ini_ForkPoolModel (by decide) np_Mo_cancel (by decide) (by decide) rfl hb9 hM hdd hst rfl k1 k2
theorem lm_Lw_114 : Cond.methodLink "ForkPoolLaw" 114 y_Mo_job ∈ fxTW := fxTW_in 985 (by decide +kernel) rfl
theorem c_Lw_114 {G : fxG} {d nL : Nat} {cc : ByteArray} {nm : String} {ret : Option FieldType} {hh : List (Nat × Nat × Nat × Nat)} {x : fxX} {Q : State → Prop} {w : fxW} {pc : Nat} {ls : List (Nat × Value)} {st : List Value} (C : fxC G d cc nL "ForkPoolLaw" nm ret hh x) {b n0 d' : Nat} {a0 a1 : Value} {P : Outcome → fxW → Prop} (hd : decode cc pc = .ok (.invokevirtual 114, 3)) (hb9 : fxk w b = some (6, n0)) (hM : fxM G d' y_Mo_job (.ref b :: [a0, a1]) w P) (hdd : d' < d) (hst : (st.map fun v => v.category).sum ≤ 8) (k1 : ∀ v w', P (.returned v) w' → fxR G nL x Q w' (pc + 3) ls (v.toList ++ st)) (k2 : ∀ a w', P (.threw a) w' → fxRt G nL x Q w' pc ls st a) : fxR G nL x Q w pc ls (a1 :: a0 :: .ref b :: st) := r_callV (As := [a0, a1]) (Cn := "ForkPoolModel") (ci := 6) C hd lm_Lw_114 (fxTW_in 986 (by decide +kernel) rfl) (fxTW_in 987 (by decide +kernel) rfl) w_Mo_job ini_ForkPoolModel (by decide) np_Mo_job (by decide) (by decide) rfl hb9 hM hdd hst rfl k1 k2
theorem lm_Lw_117 : Cond.methodLink "ForkPoolLaw" 117 y_Mo_task ∈ fxTW := fxTW_in 989 (by decide +kernel) rfl
theorem c_Lw_117 {G : fxG} {d nL : Nat} {cc : ByteArray} {nm : String} {ret : Option FieldType} {hh : List (Nat × Nat × Nat × Nat)} {x : fxX} {Q : State → Prop} {w : fxW} {pc : Nat} {ls : List (Nat × Value)} {st : List Value} (C : fxC G d cc nL "ForkPoolLaw" nm ret hh x) {b n0 d' : Nat} {a0 a1 a2 : Value} {P : Outcome → fxW → Prop} (hd : decode cc pc = .ok (.invokevirtual 117, 3)) (hb9 : fxk w b = some (6, n0)) (hM : fxM G d' y_Mo_task (.ref b :: [a0, a1, a2]) w P) (hdd : d' < d) (hst : (st.map fun v => v.category).sum ≤ 8) (k1 : ∀ v w', P (.returned v) w' → fxR G nL x Q w' (pc + 3) ls (v.toList ++ st)) (k2 : ∀ a w', P (.threw a) w' → fxRt G nL x Q w' pc ls st a) : fxR G nL x Q w pc ls (a2 :: a1 :: a0 :: .ref b :: st) := r_callV (As := [a0, a1, a2]) (Cn := "ForkPoolModel") (ci := 6) C hd lm_Lw_117 (fxTW_in 990 (by decide +kernel) rfl) (fxTW_in 991 (by decide +kernel) rfl) w_Mo_task ini_ForkPoolModel (by decide) np_Mo_task (by decide) (by decide) rfl hb9 hM hdd hst rfl k1 k2
theorem lm_Lw_120 : Cond.methodLink "ForkPoolLaw" 120 y_Mo_worker ∈ fxTW := fxTW_in 993 (by decide +kernel) rfl
theorem c_Lw_120 {G : fxG} {d nL : Nat} {cc : ByteArray} {nm : String} {ret : Option FieldType} {hh : List (Nat × Nat × Nat × Nat)} {x : fxX} {Q : State → Prop} {w : fxW} {pc : Nat} {ls : List (Nat × Value)} {st : List Value} (C : fxC G d cc nL "ForkPoolLaw" nm ret hh x) {b n0 d' : Nat} {a0 a1 : Value} {P : Outcome → fxW → Prop} (hd : decode cc pc = .ok (.invokevirtual 120, 3)) (hb9 : fxk w b = some (6, n0)) (hM : fxM G d' y_Mo_worker (.ref b :: [a0, a1]) w P) (hdd : d' < d) (hst : (st.map fun v => v.category).sum ≤ 8) (k1 : ∀ v w', P (.returned v) w' → fxR G nL x Q w' (pc + 3) ls (v.toList ++ st)) (k2 : ∀ a w', P (.threw a) w' → fxRt G nL x Q w' pc ls st a) : fxR G nL x Q w pc ls (a1 :: a0 :: .ref b :: st) := r_callV (As := [a0, a1]) (Cn := "ForkPoolModel") (ci := 6) C hd lm_Lw_120 (fxTW_in 994 (by decide +kernel) rfl) (fxTW_in 995 (by decide +kernel) rfl) w_Mo_worker ini_ForkPoolModel (by decide) np_Mo_worker (by decide) (by decide) rfl hb9 hM hdd hst rfl k1 k2
theorem lm_Lw_123 : Cond.methodLink "ForkPoolLaw" 123 y_Mo_grain ∈ fxTW := fxTW_in 997 (by decide +kernel) rfl
theorem c_Lw_123 {G : fxG} {d nL : Nat} {cc : ByteArray} {nm : String} {ret : Option FieldType} {hh : List (Nat × Nat × Nat × Nat)} {x : fxX} {Q : State → Prop} {w : fxW} {pc : Nat} {ls : List (Nat × Value)} {st : List Value} (C : fxC G d cc nL "ForkPoolLaw" nm ret hh x) {b n0 d' : Nat} {a0 : Value} {P : Outcome → fxW → Prop} (hd : decode cc pc = .ok (.invokevirtual 123, 3)) (hb9 : fxk w b = some (6, n0)) (hM : fxM G d' y_Mo_grain (.ref b :: [a0]) w P) (hdd : d' < d) (hst : (st.map fun v => v.category).sum ≤ 8) (k1 : ∀ v w', P (.returned v) w' → fxR G nL x Q w' (pc + 3) ls (v.toList ++ st)) (k2 : ∀ a w', P (.threw a) w' → fxRt G nL x Q w' pc ls st a) : fxR G nL x Q w pc ls (a0 :: .ref b :: st) := r_callV (As := [a0]) (Cn := "ForkPoolModel") (ci := 6) C hd lm_Lw_123 (fxTW_in 998 (by decide +kernel) rfl) (fxTW_in 999 (by decide +kernel) rfl) w_Mo_grain ini_ForkPoolModel (by decide) np_Mo_grain (by decide) (by decide) rfl hb9 hM hdd hst rfl k1 k2
theorem lm_Lw_126 : Cond.methodLink "ForkPoolLaw" 126 y_Mo_count ∈ fxTW := fxTW_in 1001 (by decide +kernel) rfl
theorem c_Lw_126 {G : fxG} {d nL : Nat} {cc : ByteArray} {nm : String} {ret : Option FieldType} {hh : List (Nat × Nat × Nat × Nat)} {x : fxX} {Q : State → Prop} {w : fxW} {pc : Nat} {ls : List (Nat × Value)} {st : List Value} (C : fxC G d cc nL "ForkPoolLaw" nm ret hh x) {b n0 d' : Nat} {a0 : Value} {P : Outcome → fxW → Prop} (hd : decode cc pc = .ok (.invokevirtual 126, 3)) (hb9 : fxk w b = some (6, n0)) (hM : fxM G d' y_Mo_count (.ref b :: [a0]) w P) (hdd : d' < d) (hst : (st.map fun v => v.category).sum ≤ 8) (k1 : ∀ v w', P (.returned v) w' → fxR G nL x Q w' (pc + 3) ls (v.toList ++ st)) (k2 : ∀ a w', P (.threw a) w' → fxRt G nL x Q w' pc ls st a) : fxR G nL x Q w pc ls (a0 :: .ref b :: st) := r_callV (As := [a0]) (Cn := "ForkPoolModel") (ci := 6) C hd lm_Lw_126 (fxTW_in 1002 (by decide +kernel) rfl) (fxTW_in 1003 (by decide +kernel) rfl) w_Mo_count ini_ForkPoolModel (by decide) np_Mo_count (by decide) (by decide) rfl hb9 hM hdd hst rfl k1 k2
theorem lc_Lw_8 : Cond.classLink "ForkPoolLaw" 8 "ForkPool" ∈ fxTW := fxTW_in 62 (by decide +kernel) rfl
theorem n_Lw_8 {G : fxG} {d nL : Nat} {cc : ByteArray} {nm : String} {ret : Option FieldType} {hh : List (Nat × Nat × Nat × Nat)} {x : fxX} {Q : State → Prop} {w : fxW} {pc : Nat} {ls : List (Nat × Value)} {st : List Value} (C : fxC G d cc nL "ForkPoolLaw" nm ret hh x) (hd : decode cc pc = .ok (.new 8, 3)) (h9 : fxt w + 1 ≤ fxmt G) (h8 : fxu w + 7 ≤ fxmu G) (k : fxR G nL x Q (fx_new w 0 7 (fun k => defaultValue (tFP k))) (pc + 3) ls (.ref (fxt w) :: st)) : fxR G nL x Q w pc ls st := r_new (Cn := RFP) (T := FFP) (N := 7) (ci := 0) C hd rfl (by decide) inFP tFP tyFP lc_Lw_8 (fxTW_in 63 (by decide +kernel) rfl) ini_ForkPool (fun _ _ => rfl) h9 h8 k
theorem lc_Lw_74 : Cond.classLink "ForkPoolLaw" 74 "ForkPoolModel" ∈ fxTW := fxTW_in 749 (by decide +kernel) rfl
theorem n_Lw_74 {G : fxG} {d nL : Nat} {cc : ByteArray} {nm : String} {ret : Option FieldType} {hh : List (Nat × Nat × Nat × Nat)} {x : fxX} {Q : State → Prop} {w : fxW} {pc : Nat} {ls : List (Nat × Value)} {st : List Value} (C : fxC G d cc nL "ForkPoolLaw" nm ret hh x) (hd : decode cc pc = .ok (.new 74, 3)) (h9 : fxt w + 1 ≤ fxmt G) (h8 : fxu w + 33 ≤ fxmu G) (k : fxR G nL x Q (fx_new w 6 33 (fun k => defaultValue (tMo k))) (pc + 3) ls (.ref (fxt w) :: st)) : fxR G nL x Q w pc ls st := r_new (Cn := RMo) (T := FMo) (N := 33) (ci := 6) C hd rfl (by decide) inMo tMo tyMo lc_Lw_74 (fxTW_in 750 (by decide +kernel) rfl) ini_ForkPoolModel (fun _ _ => rfl) h9 h8 k
theorem lk_Mo_7 : Cond.fieldLink "ForkPoolModel" 7 "ForkPoolModel" "type" "[I" ∈ fxTW := fxTW_in 757 (by decide +kernel) rfl
theorem g_Mo_7 {G : fxG} {d nL : Nat} {cc : ByteArray} {nm : String} {ret : Option FieldType} {hh : List (Nat × Nat × Nat × Nat)} {x : fxX} {Q : State → Prop} {w : fxW} {pc : Nat} {ls : List (Nat × Value)} {st : List Value} (C : fxC G d cc nL "ForkPoolModel" nm ret hh x) {a n : Nat} {v : Value} (hd : decode cc pc = .ok (.getfield 7, 3)) (ha : fxk w a = some (6, n)) (hv : fxf w 386 a = v) (k : fxR G nL x Q w (pc + 3) ls (v :: st)) : fxR G nL x Q w pc ls (.ref a :: st) := r_get (Cn := RMo) (T := FMo) (N := 33) (ci := 6) (k0 := 2) C hd rfl (by decide) inMo (by decide) lk_Mo_7 (Or.inl rfl) ha hv k
theorem lk_Mo_13 : Cond.fieldLink "ForkPoolModel" 13 "ForkPoolModel" "length" "[I" ∈ fxTW := fxTW_in 758 (by decide +kernel) rfl
theorem g_Mo_13 {G : fxG} {d nL : Nat} {cc : ByteArray} {nm : String} {ret : Option FieldType} {hh : List (Nat × Nat × Nat × Nat)} {x : fxX} {Q : State → Prop} {w : fxW} {pc : Nat} {ls : List (Nat × Value)} {st : List Value} (C : fxC G d cc nL "ForkPoolModel" nm ret hh x) {a n : Nat} {v : Value} (hd : decode cc pc = .ok (.getfield 13, 3)) (ha : fxk w a = some (6, n)) (hv : fxf w 387 a = v) (k : fxR G nL x Q w (pc + 3) ls (v :: st)) : fxR G nL x Q w pc ls (.ref a :: st) := r_get (Cn := RMo) (T := FMo) (N := 33) (ci := 6) (k0 := 3) C hd rfl (by decide) inMo (by decide) lk_Mo_13 (Or.inl rfl) ha hv k
theorem lk_Mo_16 : Cond.fieldLink "ForkPoolModel" 16 "ForkPoolModel" "data" "[J" ∈ fxTW := fxTW_in 759 (by decide +kernel) rfl
theorem g_Mo_16 {G : fxG} {d nL : Nat} {cc : ByteArray} {nm : String} {ret : Option FieldType} {hh : List (Nat × Nat × Nat × Nat)} {x : fxX} {Q : State → Prop} {w : fxW} {pc : Nat} {ls : List (Nat × Value)} {st : List Value} (C : fxC G d cc nL "ForkPoolModel" nm ret hh x) {a n : Nat} {v : Value} (hd : decode cc pc = .ok (.getfield 16, 3)) (ha : fxk w a = some (6, n)) (hv : fxf w 388 a = v) (k : fxR G nL x Q w (pc + 3) ls (v :: st)) : fxR G nL x Q w pc ls (.ref a :: st) := r_get (Cn := RMo) (T := FMo) (N := 33) (ci := 6) (k0 := 4) C hd rfl (by decide) inMo (by decide) lk_Mo_16 (Or.inl rfl) ha hv k
theorem lk_Mo_20 : Cond.fieldLink "ForkPoolModel" 20 "ForkPoolModel" "kind" "[I" ∈ fxTW := fxTW_in 760 (by decide +kernel) rfl
theorem g_Mo_20 {G : fxG} {d nL : Nat} {cc : ByteArray} {nm : String} {ret : Option FieldType} {hh : List (Nat × Nat × Nat × Nat)} {x : fxX} {Q : State → Prop} {w : fxW} {pc : Nat} {ls : List (Nat × Value)} {st : List Value} (C : fxC G d cc nL "ForkPoolModel" nm ret hh x) {a n : Nat} {v : Value} (hd : decode cc pc = .ok (.getfield 20, 3)) (ha : fxk w a = some (6, n)) (hv : fxf w 389 a = v) (k : fxR G nL x Q w (pc + 3) ls (v :: st)) : fxR G nL x Q w pc ls (.ref a :: st) := r_get (Cn := RMo) (T := FMo) (N := 33) (ci := 6) (k0 := 5) C hd rfl (by decide) inMo (by decide) lk_Mo_20 (Or.inl rfl) ha hv k
theorem lk_Mo_23 : Cond.fieldLink "ForkPoolModel" 23 "ForkPoolModel" "on" "[I" ∈ fxTW := fxTW_in 761 (by decide +kernel) rfl
theorem g_Mo_23 {G : fxG} {d nL : Nat} {cc : ByteArray} {nm : String} {ret : Option FieldType} {hh : List (Nat × Nat × Nat × Nat)} {x : fxX} {Q : State → Prop} {w : fxW} {pc : Nat} {ls : List (Nat × Value)} {st : List Value} (C : fxC G d cc nL "ForkPoolModel" nm ret hh x) {a n : Nat} {v : Value} (hd : decode cc pc = .ok (.getfield 23, 3)) (ha : fxk w a = some (6, n)) (hv : fxf w 390 a = v) (k : fxR G nL x Q w (pc + 3) ls (v :: st)) : fxR G nL x Q w pc ls (.ref a :: st) := r_get (Cn := RMo) (T := FMo) (N := 33) (ci := 6) (k0 := 6) C hd rfl (by decide) inMo (by decide) lk_Mo_23 (Or.inl rfl) ha hv k
theorem lk_Mo_26 : Cond.fieldLink "ForkPoolModel" 26 "ForkPoolModel" "c" "[I" ∈ fxTW := fxTW_in 762 (by decide +kernel) rfl
theorem g_Mo_26 {G : fxG} {d nL : Nat} {cc : ByteArray} {nm : String} {ret : Option FieldType} {hh : List (Nat × Nat × Nat × Nat)} {x : fxX} {Q : State → Prop} {w : fxW} {pc : Nat} {ls : List (Nat × Value)} {st : List Value} (C : fxC G d cc nL "ForkPoolModel" nm ret hh x) {a n : Nat} {v : Value} (hd : decode cc pc = .ok (.getfield 26, 3)) (ha : fxk w a = some (6, n)) (hv : fxf w 391 a = v) (k : fxR G nL x Q w (pc + 3) ls (v :: st)) : fxR G nL x Q w pc ls (.ref a :: st) := r_get (Cn := RMo) (T := FMo) (N := 33) (ci := 6) (k0 := 7) C hd rfl (by decide) inMo (by decide) lk_Mo_26 (Or.inl rfl) ha hv k
theorem lk_Mo_29 : Cond.fieldLink "ForkPoolModel" 29 "ForkPoolModel" "d" "[I" ∈ fxTW := fxTW_in 763 (by decide +kernel) rfl
theorem g_Mo_29 {G : fxG} {d nL : Nat} {cc : ByteArray} {nm : String} {ret : Option FieldType} {hh : List (Nat × Nat × Nat × Nat)} {x : fxX} {Q : State → Prop} {w : fxW} {pc : Nat} {ls : List (Nat × Value)} {st : List Value} (C : fxC G d cc nL "ForkPoolModel" nm ret hh x) {a n : Nat} {v : Value} (hd : decode cc pc = .ok (.getfield 29, 3)) (ha : fxk w a = some (6, n)) (hv : fxf w 392 a = v) (k : fxR G nL x Q w (pc + 3) ls (v :: st)) : fxR G nL x Q w pc ls (.ref a :: st) := r_get (Cn := RMo) (T := FMo) (N := 33) (ci := 6) (k0 := 8) C hd rfl (by decide) inMo (by decide) lk_Mo_29 (Or.inl rfl) ha hv k
theorem lk_Mo_32 : Cond.fieldLink "ForkPoolModel" 32 "ForkPoolModel" "state" "[I" ∈ fxTW := fxTW_in 764 (by decide +kernel) rfl
theorem g_Mo_32 {G : fxG} {d nL : Nat} {cc : ByteArray} {nm : String} {ret : Option FieldType} {hh : List (Nat × Nat × Nat × Nat)} {x : fxX} {Q : State → Prop} {w : fxW} {pc : Nat} {ls : List (Nat × Value)} {st : List Value} (C : fxC G d cc nL "ForkPoolModel" nm ret hh x) {a n : Nat} {v : Value} (hd : decode cc pc = .ok (.getfield 32, 3)) (ha : fxk w a = some (6, n)) (hv : fxf w 393 a = v) (k : fxR G nL x Q w (pc + 3) ls (v :: st)) : fxR G nL x Q w pc ls (.ref a :: st) := r_get (Cn := RMo) (T := FMo) (N := 33) (ci := 6) (k0 := 9) C hd rfl (by decide) inMo (by decide) lk_Mo_32 (Or.inl rfl) ha hv k
theorem lk_Mo_35 : Cond.fieldLink "ForkPoolModel" 35 "ForkPoolModel" "failedAt" "[I" ∈ fxTW := fxTW_in 765 (by decide +kernel) rfl
theorem g_Mo_35 {G : fxG} {d nL : Nat} {cc : ByteArray} {nm : String} {ret : Option FieldType} {hh : List (Nat × Nat × Nat × Nat)} {x : fxX} {Q : State → Prop} {w : fxW} {pc : Nat} {ls : List (Nat × Value)} {st : List Value} (C : fxC G d cc nL "ForkPoolModel" nm ret hh x) {a n : Nat} {v : Value} (hd : decode cc pc = .ok (.getfield 35, 3)) (ha : fxk w a = some (6, n)) (hv : fxf w 394 a = v) (k : fxR G nL x Q w (pc + 3) ls (v :: st)) : fxR G nL x Q w pc ls (.ref a :: st) := r_get (Cn := RMo) (T := FMo) (N := 33) (ci := 6) (k0 := 10) C hd rfl (by decide) inMo (by decide) lk_Mo_35 (Or.inl rfl) ha hv k
theorem lk_Mo_38 : Cond.fieldLink "ForkPoolModel" 38 "ForkPoolModel" "did" "[I" ∈ fxTW := fxTW_in 766 (by decide +kernel) rfl
theorem g_Mo_38 {G : fxG} {d nL : Nat} {cc : ByteArray} {nm : String} {ret : Option FieldType} {hh : List (Nat × Nat × Nat × Nat)} {x : fxX} {Q : State → Prop} {w : fxW} {pc : Nat} {ls : List (Nat × Value)} {st : List Value} (C : fxC G d cc nL "ForkPoolModel" nm ret hh x) {a n : Nat} {v : Value} (hd : decode cc pc = .ok (.getfield 38, 3)) (ha : fxk w a = some (6, n)) (hv : fxf w 395 a = v) (k : fxR G nL x Q w (pc + 3) ls (v :: st)) : fxR G nL x Q w pc ls (.ref a :: st) := r_get (Cn := RMo) (T := FMo) (N := 33) (ci := 6) (k0 := 11) C hd rfl (by decide) inMo (by decide) lk_Mo_38 (Or.inl rfl) ha hv k
theorem lk_Mo_41 : Cond.fieldLink "ForkPoolModel" 41 "ForkPoolModel" "root" "[I" ∈ fxTW := fxTW_in 767 (by decide +kernel) rfl
theorem g_Mo_41 {G : fxG} {d nL : Nat} {cc : ByteArray} {nm : String} {ret : Option FieldType} {hh : List (Nat × Nat × Nat × Nat)} {x : fxX} {Q : State → Prop} {w : fxW} {pc : Nat} {ls : List (Nat × Value)} {st : List Value} (C : fxC G d cc nL "ForkPoolModel" nm ret hh x) {a n : Nat} {v : Value} (hd : decode cc pc = .ok (.getfield 41, 3)) (ha : fxk w a = some (6, n)) (hv : fxf w 396 a = v) (k : fxR G nL x Q w (pc + 3) ls (v :: st)) : fxR G nL x Q w pc ls (.ref a :: st) := r_get (Cn := RMo) (T := FMo) (N := 33) (ci := 6) (k0 := 12) C hd rfl (by decide) inMo (by decide) lk_Mo_41 (Or.inl rfl) ha hv k
theorem lk_Mo_44 : Cond.fieldLink "ForkPoolModel" 44 "ForkPoolModel" "round" "[I" ∈ fxTW := fxTW_in 768 (by decide +kernel) rfl
theorem g_Mo_44 {G : fxG} {d nL : Nat} {cc : ByteArray} {nm : String} {ret : Option FieldType} {hh : List (Nat × Nat × Nat × Nat)} {x : fxX} {Q : State → Prop} {w : fxW} {pc : Nat} {ls : List (Nat × Value)} {st : List Value} (C : fxC G d cc nL "ForkPoolModel" nm ret hh x) {a n : Nat} {v : Value} (hd : decode cc pc = .ok (.getfield 44, 3)) (ha : fxk w a = some (6, n)) (hv : fxf w 397 a = v) (k : fxR G nL x Q w (pc + 3) ls (v :: st)) : fxR G nL x Q w pc ls (.ref a :: st) := r_get (Cn := RMo) (T := FMo) (N := 33) (ci := 6) (k0 := 13) C hd rfl (by decide) inMo (by decide) lk_Mo_44 (Or.inl rfl) ha hv k
theorem lk_Mo_47 : Cond.fieldLink "ForkPoolModel" 47 "ForkPoolModel" "of" "[I" ∈ fxTW := fxTW_in 770 (by decide +kernel) rfl
theorem g_Mo_47 {G : fxG} {d nL : Nat} {cc : ByteArray} {nm : String} {ret : Option FieldType} {hh : List (Nat × Nat × Nat × Nat)} {x : fxX} {Q : State → Prop} {w : fxW} {pc : Nat} {ls : List (Nat × Value)} {st : List Value} (C : fxC G d cc nL "ForkPoolModel" nm ret hh x) {a n : Nat} {v : Value} (hd : decode cc pc = .ok (.getfield 47, 3)) (ha : fxk w a = some (6, n)) (hv : fxf w 399 a = v) (k : fxR G nL x Q w (pc + 3) ls (v :: st)) : fxR G nL x Q w pc ls (.ref a :: st) := r_get (Cn := RMo) (T := FMo) (N := 33) (ci := 6) (k0 := 15) C hd rfl (by decide) inMo (by decide) lk_Mo_47 (Or.inl rfl) ha hv k
theorem lk_Mo_50 : Cond.fieldLink "ForkPoolModel" 50 "ForkPoolModel" "from" "[I" ∈ fxTW := fxTW_in 771 (by decide +kernel) rfl
theorem g_Mo_50 {G : fxG} {d nL : Nat} {cc : ByteArray} {nm : String} {ret : Option FieldType} {hh : List (Nat × Nat × Nat × Nat)} {x : fxX} {Q : State → Prop} {w : fxW} {pc : Nat} {ls : List (Nat × Value)} {st : List Value} (C : fxC G d cc nL "ForkPoolModel" nm ret hh x) {a n : Nat} {v : Value} (hd : decode cc pc = .ok (.getfield 50, 3)) (ha : fxk w a = some (6, n)) (hv : fxf w 400 a = v) (k : fxR G nL x Q w (pc + 3) ls (v :: st)) : fxR G nL x Q w pc ls (.ref a :: st) := r_get (Cn := RMo) (T := FMo) (N := 33) (ci := 6) (k0 := 16) C hd rfl (by decide) inMo (by decide) lk_Mo_50 (Or.inl rfl) ha hv k
theorem lk_Mo_53 : Cond.fieldLink "ForkPoolModel" 53 "ForkPoolModel" "to" "[I" ∈ fxTW := fxTW_in 772 (by decide +kernel) rfl
theorem g_Mo_53 {G : fxG} {d nL : Nat} {cc : ByteArray} {nm : String} {ret : Option FieldType} {hh : List (Nat × Nat × Nat × Nat)} {x : fxX} {Q : State → Prop} {w : fxW} {pc : Nat} {ls : List (Nat × Value)} {st : List Value} (C : fxC G d cc nL "ForkPoolModel" nm ret hh x) {a n : Nat} {v : Value} (hd : decode cc pc = .ok (.getfield 53, 3)) (ha : fxk w a = some (6, n)) (hv : fxf w 401 a = v) (k : fxR G nL x Q w (pc + 3) ls (v :: st)) : fxR G nL x Q w pc ls (.ref a :: st) := r_get (Cn := RMo) (T := FMo) (N := 33) (ci := 6) (k0 := 17) C hd rfl (by decide) inMo (by decide) lk_Mo_53 (Or.inl rfl) ha hv k
theorem lk_Mo_56 : Cond.fieldLink "ForkPoolModel" 56 "ForkPoolModel" "parent" "[I" ∈ fxTW := fxTW_in 773 (by decide +kernel) rfl
theorem g_Mo_56 {G : fxG} {d nL : Nat} {cc : ByteArray} {nm : String} {ret : Option FieldType} {hh : List (Nat × Nat × Nat × Nat)} {x : fxX} {Q : State → Prop} {w : fxW} {pc : Nat} {ls : List (Nat × Value)} {st : List Value} (C : fxC G d cc nL "ForkPoolModel" nm ret hh x) {a n : Nat} {v : Value} (hd : decode cc pc = .ok (.getfield 56, 3)) (ha : fxk w a = some (6, n)) (hv : fxf w 402 a = v) (k : fxR G nL x Q w (pc + 3) ls (v :: st)) : fxR G nL x Q w pc ls (.ref a :: st) := r_get (Cn := RMo) (T := FMo) (N := 33) (ci := 6) (k0 := 18) C hd rfl (by decide) inMo (by decide) lk_Mo_56 (Or.inl rfl) ha hv k
theorem lk_Mo_59 : Cond.fieldLink "ForkPoolModel" 59 "ForkPoolModel" "child" "[I" ∈ fxTW := fxTW_in 774 (by decide +kernel) rfl
theorem g_Mo_59 {G : fxG} {d nL : Nat} {cc : ByteArray} {nm : String} {ret : Option FieldType} {hh : List (Nat × Nat × Nat × Nat)} {x : fxX} {Q : State → Prop} {w : fxW} {pc : Nat} {ls : List (Nat × Value)} {st : List Value} (C : fxC G d cc nL "ForkPoolModel" nm ret hh x) {a n : Nat} {v : Value} (hd : decode cc pc = .ok (.getfield 59, 3)) (ha : fxk w a = some (6, n)) (hv : fxf w 403 a = v) (k : fxR G nL x Q w (pc + 3) ls (v :: st)) : fxR G nL x Q w pc ls (.ref a :: st) := r_get (Cn := RMo) (T := FMo) (N := 33) (ci := 6) (k0 := 19) C hd rfl (by decide) inMo (by decide) lk_Mo_59 (Or.inl rfl) ha hv k
theorem lk_Mo_62 : Cond.fieldLink "ForkPoolModel" 62 "ForkPoolModel" "over" "[I" ∈ fxTW := fxTW_in 775 (by decide +kernel) rfl
theorem g_Mo_62 {G : fxG} {d nL : Nat} {cc : ByteArray} {nm : String} {ret : Option FieldType} {hh : List (Nat × Nat × Nat × Nat)} {x : fxX} {Q : State → Prop} {w : fxW} {pc : Nat} {ls : List (Nat × Value)} {st : List Value} (C : fxC G d cc nL "ForkPoolModel" nm ret hh x) {a n : Nat} {v : Value} (hd : decode cc pc = .ok (.getfield 62, 3)) (ha : fxk w a = some (6, n)) (hv : fxf w 404 a = v) (k : fxR G nL x Q w (pc + 3) ls (v :: st)) : fxR G nL x Q w pc ls (.ref a :: st) := r_get (Cn := RMo) (T := FMo) (N := 33) (ci := 6) (k0 := 20) C hd rfl (by decide) inMo (by decide) lk_Mo_62 (Or.inl rfl) ha hv k
theorem lk_Mo_65 : Cond.fieldLink "ForkPoolModel" 65 "ForkPoolModel" "result" "[J" ∈ fxTW := fxTW_in 776 (by decide +kernel) rfl
theorem g_Mo_65 {G : fxG} {d nL : Nat} {cc : ByteArray} {nm : String} {ret : Option FieldType} {hh : List (Nat × Nat × Nat × Nat)} {x : fxX} {Q : State → Prop} {w : fxW} {pc : Nat} {ls : List (Nat × Value)} {st : List Value} (C : fxC G d cc nL "ForkPoolModel" nm ret hh x) {a n : Nat} {v : Value} (hd : decode cc pc = .ok (.getfield 65, 3)) (ha : fxk w a = some (6, n)) (hv : fxf w 405 a = v) (k : fxR G nL x Q w (pc + 3) ls (v :: st)) : fxR G nL x Q w pc ls (.ref a :: st) := r_get (Cn := RMo) (T := FMo) (N := 33) (ci := 6) (k0 := 21) C hd rfl (by decide) inMo (by decide) lk_Mo_65 (Or.inl rfl) ha hv k
theorem lk_Mo_68 : Cond.fieldLink "ForkPoolModel" 68 "ForkPoolModel" "base" "[J" ∈ fxTW := fxTW_in 777 (by decide +kernel) rfl
theorem g_Mo_68 {G : fxG} {d nL : Nat} {cc : ByteArray} {nm : String} {ret : Option FieldType} {hh : List (Nat × Nat × Nat × Nat)} {x : fxX} {Q : State → Prop} {w : fxW} {pc : Nat} {ls : List (Nat × Value)} {st : List Value} (C : fxC G d cc nL "ForkPoolModel" nm ret hh x) {a n : Nat} {v : Value} (hd : decode cc pc = .ok (.getfield 68, 3)) (ha : fxk w a = some (6, n)) (hv : fxf w 406 a = v) (k : fxR G nL x Q w (pc + 3) ls (v :: st)) : fxR G nL x Q w pc ls (.ref a :: st) := r_get (Cn := RMo) (T := FMo) (N := 33) (ci := 6) (k0 := 22) C hd rfl (by decide) inMo (by decide) lk_Mo_68 (Or.inl rfl) ha hv k
theorem lk_Mo_71 : Cond.fieldLink "ForkPoolModel" 71 "ForkPoolModel" "queue" "[I" ∈ fxTW := fxTW_in 779 (by decide +kernel) rfl
theorem g_Mo_71 {G : fxG} {d nL : Nat} {cc : ByteArray} {nm : String} {ret : Option FieldType} {hh : List (Nat × Nat × Nat × Nat)} {x : fxX} {Q : State → Prop} {w : fxW} {pc : Nat} {ls : List (Nat × Value)} {st : List Value} (C : fxC G d cc nL "ForkPoolModel" nm ret hh x) {a n : Nat} {v : Value} (hd : decode cc pc = .ok (.getfield 71, 3)) (ha : fxk w a = some (6, n)) (hv : fxf w 408 a = v) (k : fxR G nL x Q w (pc + 3) ls (v :: st)) : fxR G nL x Q w pc ls (.ref a :: st) := r_get (Cn := RMo) (T := FMo) (N := 33) (ci := 6) (k0 := 24) C hd rfl (by decide) inMo (by decide) lk_Mo_71 (Or.inl rfl) ha hv k
theorem lk_Mo_74 : Cond.fieldLink "ForkPoolModel" 74 "ForkPoolModel" "queued" "[I" ∈ fxTW := fxTW_in 780 (by decide +kernel) rfl
theorem g_Mo_74 {G : fxG} {d nL : Nat} {cc : ByteArray} {nm : String} {ret : Option FieldType} {hh : List (Nat × Nat × Nat × Nat)} {x : fxX} {Q : State → Prop} {w : fxW} {pc : Nat} {ls : List (Nat × Value)} {st : List Value} (C : fxC G d cc nL "ForkPoolModel" nm ret hh x) {a n : Nat} {v : Value} (hd : decode cc pc = .ok (.getfield 74, 3)) (ha : fxk w a = some (6, n)) (hv : fxf w 409 a = v) (k : fxR G nL x Q w (pc + 3) ls (v :: st)) : fxR G nL x Q w pc ls (.ref a :: st) := r_get (Cn := RMo) (T := FMo) (N := 33) (ci := 6) (k0 := 25) C hd rfl (by decide) inMo (by decide) lk_Mo_74 (Or.inl rfl) ha hv k
theorem lk_Mo_77 : Cond.fieldLink "ForkPoolModel" 77 "ForkPoolModel" "done" "[I" ∈ fxTW := fxTW_in 781 (by decide +kernel) rfl
theorem g_Mo_77 {G : fxG} {d nL : Nat} {cc : ByteArray} {nm : String} {ret : Option FieldType} {hh : List (Nat × Nat × Nat × Nat)} {x : fxX} {Q : State → Prop} {w : fxW} {pc : Nat} {ls : List (Nat × Value)} {st : List Value} (C : fxC G d cc nL "ForkPoolModel" nm ret hh x) {a n : Nat} {v : Value} (hd : decode cc pc = .ok (.getfield 77, 3)) (ha : fxk w a = some (6, n)) (hv : fxf w 410 a = v) (k : fxR G nL x Q w (pc + 3) ls (v :: st)) : fxR G nL x Q w pc ls (.ref a :: st) := r_get (Cn := RMo) (T := FMo) (N := 33) (ci := 6) (k0 := 26) C hd rfl (by decide) inMo (by decide) lk_Mo_77 (Or.inl rfl) ha hv k
theorem lk_Mo_80 : Cond.fieldLink "ForkPoolModel" 80 "ForkPoolModel" "stolen" "[I" ∈ fxTW := fxTW_in 782 (by decide +kernel) rfl
theorem g_Mo_80 {G : fxG} {d nL : Nat} {cc : ByteArray} {nm : String} {ret : Option FieldType} {hh : List (Nat × Nat × Nat × Nat)} {x : fxX} {Q : State → Prop} {w : fxW} {pc : Nat} {ls : List (Nat × Value)} {st : List Value} (C : fxC G d cc nL "ForkPoolModel" nm ret hh x) {a n : Nat} {v : Value} (hd : decode cc pc = .ok (.getfield 80, 3)) (ha : fxk w a = some (6, n)) (hv : fxf w 411 a = v) (k : fxR G nL x Q w (pc + 3) ls (v :: st)) : fxR G nL x Q w pc ls (.ref a :: st) := r_get (Cn := RMo) (T := FMo) (N := 33) (ci := 6) (k0 := 27) C hd rfl (by decide) inMo (by decide) lk_Mo_80 (Or.inl rfl) ha hv k
theorem lk_Mo_83 : Cond.fieldLink "ForkPoolModel" 83 "ForkPoolModel" "idle" "[I" ∈ fxTW := fxTW_in 783 (by decide +kernel) rfl
theorem g_Mo_83 {G : fxG} {d nL : Nat} {cc : ByteArray} {nm : String} {ret : Option FieldType} {hh : List (Nat × Nat × Nat × Nat)} {x : fxX} {Q : State → Prop} {w : fxW} {pc : Nat} {ls : List (Nat × Value)} {st : List Value} (C : fxC G d cc nL "ForkPoolModel" nm ret hh x) {a n : Nat} {v : Value} (hd : decode cc pc = .ok (.getfield 83, 3)) (ha : fxk w a = some (6, n)) (hv : fxf w 412 a = v) (k : fxR G nL x Q w (pc + 3) ls (v :: st)) : fxR G nL x Q w pc ls (.ref a :: st) := r_get (Cn := RMo) (T := FMo) (N := 33) (ci := 6) (k0 := 28) C hd rfl (by decide) inMo (by decide) lk_Mo_83 (Or.inl rfl) ha hv k
theorem lk_Mo_86 : Cond.fieldLink "ForkPoolModel" 86 "ForkPoolModel" "victim" "[I" ∈ fxTW := fxTW_in 784 (by decide +kernel) rfl
theorem g_Mo_86 {G : fxG} {d nL : Nat} {cc : ByteArray} {nm : String} {ret : Option FieldType} {hh : List (Nat × Nat × Nat × Nat)} {x : fxX} {Q : State → Prop} {w : fxW} {pc : Nat} {ls : List (Nat × Value)} {st : List Value} (C : fxC G d cc nL "ForkPoolModel" nm ret hh x) {a n : Nat} {v : Value} (hd : decode cc pc = .ok (.getfield 86, 3)) (ha : fxk w a = some (6, n)) (hv : fxf w 413 a = v) (k : fxR G nL x Q w (pc + 3) ls (v :: st)) : fxR G nL x Q w pc ls (.ref a :: st) := r_get (Cn := RMo) (T := FMo) (N := 33) (ci := 6) (k0 := 29) C hd rfl (by decide) inMo (by decide) lk_Mo_86 (Or.inl rfl) ha hv k
theorem lk_Mo_89 : Cond.fieldLink "ForkPoolModel" 89 "ForkPoolModel" "grain" "I" ∈ fxTW := fxTW_in 785 (by decide +kernel) rfl
theorem g_Mo_89 {G : fxG} {d nL : Nat} {cc : ByteArray} {nm : String} {ret : Option FieldType} {hh : List (Nat × Nat × Nat × Nat)} {x : fxX} {Q : State → Prop} {w : fxW} {pc : Nat} {ls : List (Nat × Value)} {st : List Value} (C : fxC G d cc nL "ForkPoolModel" nm ret hh x) {a n : Nat} {v : Value} (hd : decode cc pc = .ok (.getfield 89, 3)) (ha : fxk w a = some (6, n)) (hv : fxf w 414 a = v) (k : fxR G nL x Q w (pc + 3) ls (v :: st)) : fxR G nL x Q w pc ls (.ref a :: st) := r_get (Cn := RMo) (T := FMo) (N := 33) (ci := 6) (k0 := 30) C hd rfl (by decide) inMo (by decide) lk_Mo_89 (Or.inl rfl) ha hv k
theorem lk_Mo_93 : Cond.fieldLink "ForkPoolModel" 93 "ForkPoolModel" "workers" "I" ∈ fxTW := fxTW_in 756 (by decide +kernel) rfl
theorem g_Mo_93 {G : fxG} {d nL : Nat} {cc : ByteArray} {nm : String} {ret : Option FieldType} {hh : List (Nat × Nat × Nat × Nat)} {x : fxX} {Q : State → Prop} {w : fxW} {pc : Nat} {ls : List (Nat × Value)} {st : List Value} (C : fxC G d cc nL "ForkPoolModel" nm ret hh x) {a n : Nat} {v : Value} (hd : decode cc pc = .ok (.getfield 93, 3)) (ha : fxk w a = some (6, n)) (hv : fxf w 385 a = v) (k : fxR G nL x Q w (pc + 3) ls (v :: st)) : fxR G nL x Q w pc ls (.ref a :: st) := r_get (Cn := RMo) (T := FMo) (N := 33) (ci := 6) (k0 := 1) C hd rfl (by decide) inMo (by decide) lk_Mo_93 (Or.inl rfl) ha hv k
theorem lk_Mo_96 : Cond.fieldLink "ForkPoolModel" 96 "ForkPoolModel" "thrown" "I" ∈ fxTW := fxTW_in 755 (by decide +kernel) rfl
theorem g_Mo_96 {G : fxG} {d nL : Nat} {cc : ByteArray} {nm : String} {ret : Option FieldType} {hh : List (Nat × Nat × Nat × Nat)} {x : fxX} {Q : State → Prop} {w : fxW} {pc : Nat} {ls : List (Nat × Value)} {st : List Value} (C : fxC G d cc nL "ForkPoolModel" nm ret hh x) {a n : Nat} {v : Value} (hd : decode cc pc = .ok (.getfield 96, 3)) (ha : fxk w a = some (6, n)) (hv : fxf w 384 a = v) (k : fxR G nL x Q w (pc + 3) ls (v :: st)) : fxR G nL x Q w pc ls (.ref a :: st) := r_get (Cn := RMo) (T := FMo) (N := 33) (ci := 6) (k0 := 0) C hd rfl (by decide) inMo (by decide) lk_Mo_96 (Or.inl rfl) ha hv k
theorem lk_Mo_103 : Cond.fieldLink "ForkPoolModel" 103 "ForkPoolModel" "jobs" "I" ∈ fxTW := fxTW_in 769 (by decide +kernel) rfl
theorem g_Mo_103 {G : fxG} {d nL : Nat} {cc : ByteArray} {nm : String} {ret : Option FieldType} {hh : List (Nat × Nat × Nat × Nat)} {x : fxX} {Q : State → Prop} {w : fxW} {pc : Nat} {ls : List (Nat × Value)} {st : List Value} (C : fxC G d cc nL "ForkPoolModel" nm ret hh x) {a n : Nat} {v : Value} (hd : decode cc pc = .ok (.getfield 103, 3)) (ha : fxk w a = some (6, n)) (hv : fxf w 398 a = v) (k : fxR G nL x Q w (pc + 3) ls (v :: st)) : fxR G nL x Q w pc ls (.ref a :: st) := r_get (Cn := RMo) (T := FMo) (N := 33) (ci := 6) (k0 := 14) C hd rfl (by decide) inMo (by decide) lk_Mo_103 (Or.inl rfl) ha hv k
theorem lk_Mo_130 : Cond.fieldLink "ForkPoolModel" 130 "ForkPoolModel" "tasks" "I" ∈ fxTW := fxTW_in 778 (by decide +kernel) rfl
theorem g_Mo_130 {G : fxG} {d nL : Nat} {cc : ByteArray} {nm : String} {ret : Option FieldType} {hh : List (Nat × Nat × Nat × Nat)} {x : fxX} {Q : State → Prop} {w : fxW} {pc : Nat} {ls : List (Nat × Value)} {st : List Value} (C : fxC G d cc nL "ForkPoolModel" nm ret hh x) {a n : Nat} {v : Value} (hd : decode cc pc = .ok (.getfield 130, 3)) (ha : fxk w a = some (6, n)) (hv : fxf w 407 a = v) (k : fxR G nL x Q w (pc + 3) ls (v :: st)) : fxR G nL x Q w pc ls (.ref a :: st) := r_get (Cn := RMo) (T := FMo) (N := 33) (ci := 6) (k0 := 23) C hd rfl (by decide) inMo (by decide) lk_Mo_130 (Or.inl rfl) ha hv k
theorem lk_Mo_183 : Cond.fieldLink "ForkPoolModel" 183 "ForkPoolModel" "turn" "I" ∈ fxTW := fxTW_in 787 (by decide +kernel) rfl
theorem g_Mo_183 {G : fxG} {d nL : Nat} {cc : ByteArray} {nm : String} {ret : Option FieldType} {hh : List (Nat × Nat × Nat × Nat)} {x : fxX} {Q : State → Prop} {w : fxW} {pc : Nat} {ls : List (Nat × Value)} {st : List Value} (C : fxC G d cc nL "ForkPoolModel" nm ret hh x) {a n : Nat} {v : Value} (hd : decode cc pc = .ok (.getfield 183, 3)) (ha : fxk w a = some (6, n)) (hv : fxf w 416 a = v) (k : fxR G nL x Q w (pc + 3) ls (v :: st)) : fxR G nL x Q w pc ls (.ref a :: st) := r_get (Cn := RMo) (T := FMo) (N := 33) (ci := 6) (k0 := 32) C hd rfl (by decide) inMo (by decide) lk_Mo_183 (Or.inl rfl) ha hv k
theorem lk_Mo_186 : Cond.fieldLink "ForkPoolModel" 186 "ForkPoolModel" "steps" "I" ∈ fxTW := fxTW_in 786 (by decide +kernel) rfl
theorem g_Mo_186 {G : fxG} {d nL : Nat} {cc : ByteArray} {nm : String} {ret : Option FieldType} {hh : List (Nat × Nat × Nat × Nat)} {x : fxX} {Q : State → Prop} {w : fxW} {pc : Nat} {ls : List (Nat × Value)} {st : List Value} (C : fxC G d cc nL "ForkPoolModel" nm ret hh x) {a n : Nat} {v : Value} (hd : decode cc pc = .ok (.getfield 186, 3)) (ha : fxk w a = some (6, n)) (hv : fxf w 415 a = v) (k : fxR G nL x Q w (pc + 3) ls (v :: st)) : fxR G nL x Q w pc ls (.ref a :: st) := r_get (Cn := RMo) (T := FMo) (N := 33) (ci := 6) (k0 := 31) C hd rfl (by decide) inMo (by decide) lk_Mo_186 (Or.inl rfl) ha hv k
theorem o_Mo_1 {G : fxG} {d nL : Nat} {cc : ByteArray} {nm : String} {ret : Option FieldType} {hh : List (Nat × Nat × Nat × Nat)} {x : fxX} {Q : State → Prop} {w : fxW} {pc : Nat} {ls : List (Nat × Value)} {st : List Value} (C : fxC G d cc nL "ForkPoolModel" nm ret hh x) {b : Nat} (hd : decode cc pc = .ok (.invokespecial 1, 3)) (h1 : 1 ≤ d) (hst : (st.map fun v => v.category).sum ≤ 8) (k : fxR G nL x Q w (pc + 3) ls st) : fxR G nL x Q w pc ls (.ref b :: st) := r_objInit C hd (fxTW_in 754 (by decide +kernel) rfl) (fxTW_in 68 (by decide +kernel) rfl) (fxTW_in 69 (by decide +kernel) rfl) h1 hst k
theorem lm_Mo_106 : Cond.methodLink "ForkPoolModel" 106 y_Mo_in ∈ fxTW := fxTW_in 864 (by decide +kernel) rfl
theorem c_Mo_106 {G : fxG} {d nL : Nat} {cc : ByteArray} {nm : String} {ret : Option FieldType} {hh : List (Nat × Nat × Nat × Nat)} {x : fxX} {Q : State → Prop} {w : fxW} {pc : Nat} {ls : List (Nat × Value)} {st : List Value} (C : fxC G d cc nL "ForkPoolModel" nm ret hh x) {d' : Nat} {a0 a1 a2 : Value} {P : Outcome → fxW → Prop} (hd : decode cc pc = .ok (.invokestatic 106, 3)) (hM : fxM G d' y_Mo_in [a0, a1, a2] w P) (hdd : d' < d) (hst : (st.map fun v => v.category).sum ≤ 8) (k1 : ∀ v w', P (.returned v) w' → fxR G nL x Q w' (pc + 3) ls (v.toList ++ st)) (k2 : ∀ a w', P (.threw a) w' → fxRt G nL x Q w' pc ls st a) : fxR G nL x Q w pc ls (a2 :: a1 :: a0 :: st) := r_callS (As := [a0, a1, a2]) C hd lm_Mo_106 (fxTW_in 865 (by decide +kernel) rfl) w_Mo_in ini_ForkPoolModel (by decide) np_Mo_in (by decide) hM hdd hst rfl k1 k2
theorem lm_Mo_122 : Cond.methodLink "ForkPoolModel" 122 y_Mo_kept ∈ fxTW := fxTW_in 883 (by decide +kernel) rfl
theorem c_Mo_122 {G : fxG} {d nL : Nat} {cc : ByteArray} {nm : String} {ret : Option FieldType} {hh : List (Nat × Nat × Nat × Nat)} {x : fxX} {Q : State → Prop} {w : fxW} {pc : Nat} {ls : List (Nat × Value)} {st : List Value} (C : fxC G d cc nL "ForkPoolModel" nm ret hh x) {d' : Nat} {a0 a1 : Value} {P : Outcome → fxW → Prop} (hd : decode cc pc = .ok (.invokestatic 122, 3)) (hM : fxM G d' y_Mo_kept [a0, a1] w P) (hdd : d' < d) (hst : (st.map fun v => v.category).sum ≤ 8) (k1 : ∀ v w', P (.returned v) w' → fxR G nL x Q w' (pc + 3) ls (v.toList ++ st)) (k2 : ∀ a w', P (.threw a) w' → fxRt G nL x Q w' pc ls st a) : fxR G nL x Q w pc ls (a1 :: a0 :: st) := r_callS (As := [a0, a1]) C hd lm_Mo_122 (fxTW_in 884 (by decide +kernel) rfl) w_Mo_kept ini_ForkPoolModel (by decide) np_Mo_kept (by decide) hM hdd hst rfl k1 k2
theorem lm_Mo_145 : Cond.methodLink "ForkPoolModel" 145 y_Mo_down ∈ fxTW := fxTW_in 958 (by decide +kernel) rfl
theorem c_Mo_145 {G : fxG} {d nL : Nat} {cc : ByteArray} {nm : String} {ret : Option FieldType} {hh : List (Nat × Nat × Nat × Nat)} {x : fxX} {Q : State → Prop} {w : fxW} {pc : Nat} {ls : List (Nat × Value)} {st : List Value} (C : fxC G d cc nL "ForkPoolModel" nm ret hh x) {d' : Nat} {a0 a1 : Value} {P : Outcome → fxW → Prop} (hd : decode cc pc = .ok (.invokestatic 145, 3)) (hM : fxM G d' y_Mo_down [a0, a1] w P) (hdd : d' < d) (hst : (st.map fun v => v.category).sum ≤ 8) (k1 : ∀ v w', P (.returned v) w' → fxR G nL x Q w' (pc + 3) ls (v.toList ++ st)) (k2 : ∀ a w', P (.threw a) w' → fxRt G nL x Q w' pc ls st a) : fxR G nL x Q w pc ls (a1 :: a0 :: st) := r_callS (As := [a0, a1]) C hd lm_Mo_145 (fxTW_in 959 (by decide +kernel) rfl) w_Mo_down ini_ForkPoolModel (by decide) np_Mo_down (by decide) hM hdd hst rfl k1 k2
theorem lm_Mo_110 : Cond.methodLink "ForkPoolModel" 110 y_Mo_raise ∈ fxTW := fxTW_in 867 (by decide +kernel) rfl
theorem c_Mo_110 {G : fxG} {d nL : Nat} {cc : ByteArray} {nm : String} {ret : Option FieldType} {hh : List (Nat × Nat × Nat × Nat)} {x : fxX} {Q : State → Prop} {w : fxW} {pc : Nat} {ls : List (Nat × Value)} {st : List Value} (C : fxC G d cc nL "ForkPoolModel" nm ret hh x) {b n0 d' : Nat} {a0 : Value} {P : Outcome → fxW → Prop} (hd : decode cc pc = .ok (.invokevirtual 110, 3)) (hb9 : fxk w b = some (6, n0)) (hM : fxM G d' y_Mo_raise (.ref b :: [a0]) w P) (hdd : d' < d) (hst : (st.map fun v => v.category).sum ≤ 8) (k1 : ∀ v w', P (.returned v) w' → fxR G nL x Q w' (pc + 3) ls (v.toList ++ st)) (k2 : ∀ a w', P (.threw a) w' → fxRt G nL x Q w' pc ls st a) : fxR G nL x Q w pc ls (a0 :: .ref b :: st) := r_callV (As := [a0]) (Cn := "ForkPoolModel") (ci := 6) C hd lm_Mo_110 (fxTW_in 869 (by decide +kernel) rfl) (fxTW_in 18 (by decide +kernel) rfl) w_Mo_raise ini_ForkPoolModel (by decide) np_Mo_raise (by decide) (by decide) rfl hb9 hM hdd hst rfl k1 k2
theorem lm_Mo_114 : Cond.methodLink "ForkPoolModel" 114 y_Mo_busy ∈ fxTW := fxTW_in 871 (by decide +kernel) rfl
theorem c_Mo_114 {G : fxG} {d nL : Nat} {cc : ByteArray} {nm : String} {ret : Option FieldType} {hh : List (Nat × Nat × Nat × Nat)} {x : fxX} {Q : State → Prop} {w : fxW} {pc : Nat} {ls : List (Nat × Value)} {st : List Value} (C : fxC G d cc nL "ForkPoolModel" nm ret hh x) {b n0 d' : Nat} {a0 : Value} {P : Outcome → fxW → Prop} (hd : decode cc pc = .ok (.invokevirtual 114, 3)) (hb9 : fxk w b = some (6, n0)) (hM : fxM G d' y_Mo_busy (.ref b :: [a0]) w P) (hdd : d' < d) (hst : (st.map fun v => v.category).sum ≤ 8) (k1 : ∀ v w', P (.returned v) w' → fxR G nL x Q w' (pc + 3) ls (v.toList ++ st)) (k2 : ∀ a w', P (.threw a) w' → fxRt G nL x Q w' pc ls st a) : fxR G nL x Q w pc ls (a0 :: .ref b :: st) := r_callV (As := [a0]) (Cn := "ForkPoolModel") (ci := 6) C hd lm_Mo_114 (fxTW_in 873 (by decide +kernel) rfl) (fxTW_in 19 (by decide +kernel) rfl) w_Mo_busy ini_ForkPoolModel (by decide) np_Mo_busy (by decide) (by decide) rfl hb9 hM hdd hst rfl k1 k2
theorem lm_Mo_118 : Cond.methodLink "ForkPoolModel" 118 y_Mo_noElement ∈ fxTW := fxTW_in 879 (by decide +kernel) rfl
theorem c_Mo_118 {G : fxG} {d nL : Nat} {cc : ByteArray} {nm : String} {ret : Option FieldType} {hh : List (Nat × Nat × Nat × Nat)} {x : fxX} {Q : State → Prop} {w : fxW} {pc : Nat} {ls : List (Nat × Value)} {st : List Value} (C : fxC G d cc nL "ForkPoolModel" nm ret hh x) {b n0 d' : Nat} {a0 a1 : Value} {P : Outcome → fxW → Prop} (hd : decode cc pc = .ok (.invokevirtual 118, 3)) (hb9 : fxk w b = some (6, n0)) (hM : fxM G d' y_Mo_noElement (.ref b :: [a0, a1]) w P) (hdd : d' < d) (hst : (st.map fun v => v.category).sum ≤ 8) (k1 : ∀ v w', P (.returned v) w' → fxR G nL x Q w' (pc + 3) ls (v.toList ++ st)) (k2 : ∀ a w', P (.threw a) w' → fxRt G nL x Q w' pc ls st a) : fxR G nL x Q w pc ls (a1 :: a0 :: .ref b :: st) := r_callV (As := [a0, a1]) (Cn := "ForkPoolModel") (ci := 6) C hd lm_Mo_118 (fxTW_in 881 (by decide +kernel) rfl) (fxTW_in 20 (by decide +kernel) rfl) w_Mo_noElement ini_ForkPoolModel (by decide) np_Mo_noElement (by decide) (by decide) rfl hb9 hM hdd hst rfl k1 k2
theorem lm_Mo_126 : Cond.methodLink "ForkPoolModel" 126 y_Mo_pull ∈ fxTW := fxTW_in 912 (by decide +kernel) rfl
theorem c_Mo_126 {G : fxG} {d nL : Nat} {cc : ByteArray} {nm : String} {ret : Option FieldType} {hh : List (Nat × Nat × Nat × Nat)} {x : fxX} {Q : State → Prop} {w : fxW} {pc : Nat} {ls : List (Nat × Value)} {st : List Value} (C : fxC G d cc nL "ForkPoolModel" nm ret hh x) {b n0 d' : Nat} {a0 a1 : Value} {P : Outcome → fxW → Prop} (hd : decode cc pc = .ok (.invokevirtual 126, 3)) (hb9 : fxk w b = some (6, n0)) (hM : fxM G d' y_Mo_pull (.ref b :: [a0, a1]) w P) (hdd : d' < d) (hst : (st.map fun v => v.category).sum ≤ 8) (k1 : ∀ v w', P (.returned v) w' → fxR G nL x Q w' (pc + 3) ls (v.toList ++ st)) (k2 : ∀ a w', P (.threw a) w' → fxRt G nL x Q w' pc ls st a) : fxR G nL x Q w pc ls (a1 :: a0 :: .ref b :: st) := r_callV (As := [a0, a1]) (Cn := "ForkPoolModel") (ci := 6) C hd lm_Mo_126 (fxTW_in 914 (by decide +kernel) rfl) (fxTW_in 24 (by decide +kernel) rfl) w_Mo_pull ini_ForkPoolModel (by decide) np_Mo_pull (by decide) (by decide) rfl hb9 hM hdd hst rfl k1 k2
theorem lm_Mo_133 : Cond.methodLink "ForkPoolModel" 133 y_Mo_node ∈ fxTW := fxTW_in 896 (by decide +kernel) rfl
theorem c_Mo_133 {G : fxG} {d nL : Nat} {cc : ByteArray} {nm : String} {ret : Option FieldType} {hh : List (Nat × Nat × Nat × Nat)} {x : fxX} {Q : State → Prop} {w : fxW} {pc : Nat} {ls : List (Nat × Value)} {st : List Value} (C : fxC G d cc nL "ForkPoolModel" nm ret hh x) {b n0 d' : Nat} {a0 a1 a2 a3 : Value} {P : Outcome → fxW → Prop} (hd : decode cc pc = .ok (.invokevirtual 133, 3)) (hb9 : fxk w b = some (6, n0)) (hM : fxM G d' y_Mo_node (.ref b :: [a0, a1, a2, a3]) w P) (hdd : d' < d) (hst : (st.map fun v => v.category).sum ≤ 8) (k1 : ∀ v w', P (.returned v) w' → fxR G nL x Q w' (pc + 3) ls (v.toList ++ st)) (k2 : ∀ a w', P (.threw a) w' → fxRt G nL x Q w' pc ls st a) : fxR G nL x Q w pc ls (a3 :: a2 :: a1 :: a0 :: .ref b :: st) := r_callV (As := [a0, a1, a2, a3]) (Cn := "ForkPoolModel") (ci := 6) C hd lm_Mo_133 (fxTW_in 898 (by decide +kernel) rfl) (fxTW_in 21 (by decide +kernel) rfl) w_Mo_node ini_ForkPoolModel (by decide) np_Mo_node (by decide) (by decide) rfl hb9 hM hdd hst rfl k1 k2
theorem lm_Mo_137 : Cond.methodLink "ForkPoolModel" 137 y_Mo_put ∈ fxTW := fxTW_in 900 (by decide +kernel) rfl
theorem c_Mo_137 {G : fxG} {d nL : Nat} {cc : ByteArray} {nm : String} {ret : Option FieldType} {hh : List (Nat × Nat × Nat × Nat)} {x : fxX} {Q : State → Prop} {w : fxW} {pc : Nat} {ls : List (Nat × Value)} {st : List Value} (C : fxC G d cc nL "ForkPoolModel" nm ret hh x) {b n0 d' : Nat} {a0 a1 : Value} {P : Outcome → fxW → Prop} (hd : decode cc pc = .ok (.invokevirtual 137, 3)) (hb9 : fxk w b = some (6, n0)) (hM : fxM G d' y_Mo_put (.ref b :: [a0, a1]) w P) (hdd : d' < d) (hst : (st.map fun v => v.category).sum ≤ 8) (k1 : ∀ v w', P (.returned v) w' → fxR G nL x Q w' (pc + 3) ls (v.toList ++ st)) (k2 : ∀ a w', P (.threw a) w' → fxRt G nL x Q w' pc ls st a) : fxR G nL x Q w pc ls (a1 :: a0 :: .ref b :: st) := r_callV (As := [a0, a1]) (Cn := "ForkPoolModel") (ci := 6) C hd lm_Mo_137 (fxTW_in 902 (by decide +kernel) rfl) (fxTW_in 22 (by decide +kernel) rfl) w_Mo_put ini_ForkPoolModel (by decide) np_Mo_put (by decide) (by decide) rfl hb9 hM hdd hst rfl k1 k2
theorem lm_Mo_149 : Cond.methodLink "ForkPoolModel" 149 y_Mo_joined ∈ fxTW := fxTW_in 924 (by decide +kernel) rfl
theorem c_Mo_149 {G : fxG} {d nL : Nat} {cc : ByteArray} {nm : String} {ret : Option FieldType} {hh : List (Nat × Nat × Nat × Nat)} {x : fxX} {Q : State → Prop} {w : fxW} {pc : Nat} {ls : List (Nat × Value)} {st : List Value} (C : fxC G d cc nL "ForkPoolModel" nm ret hh x) {b n0 d' : Nat} {a0 a1 a2 : Value} {P : Outcome → fxW → Prop} (hd : decode cc pc = .ok (.invokevirtual 149, 3)) (hb9 : fxk w b = some (6, n0)) (hM : fxM G d' y_Mo_joined (.ref b :: [a0, a1, a2]) w P) (hdd : d' < d) (hst : (st.map fun v => v.category).sum ≤ 8) (k1 : ∀ v w', P (.returned v) w' → fxR G nL x Q w' (pc + 3) ls (v.toList ++ st)) (k2 : ∀ a w', P (.threw a) w' → fxRt G nL x Q w' pc ls st a) : fxR G nL x Q w pc ls (a2 :: a1 :: a0 :: .ref b :: st) := r_callV (As := [a0, a1, a2]) (Cn := "ForkPoolModel") (ci := 6) C hd lm_Mo_149 (fxTW_in 926 (by decide +kernel) rfl) (fxTW_in 27 (by decide +kernel) rfl) w_Mo_joined ini_ForkPoolModel (by decide) np_Mo_joined (by decide) (by decide) rfl hb9 hM hdd hst rfl k1 k2
theorem lm_Mo_153 : Cond.methodLink "ForkPoolModel" 153 y_Mo_reduced ∈ fxTW := fxTW_in 932 (by decide +kernel) rfl
theorem c_Mo_153 {G : fxG} {d nL : Nat} {cc : ByteArray} {nm : String} {ret : Option FieldType} {hh : List (Nat × Nat × Nat × Nat)} {x : fxX} {Q : State → Prop} {w : fxW} {pc : Nat} {ls : List (Nat × Value)} {st : List Value} (C : fxC G d cc nL "ForkPoolModel" nm ret hh x) {b n0 d' : Nat} {a0 : Value} {P : Outcome → fxW → Prop} (hd : decode cc pc = .ok (.invokevirtual 153, 3)) (hb9 : fxk w b = some (6, n0)) (hM : fxM G d' y_Mo_reduced (.ref b :: [a0]) w P) (hdd : d' < d) (hst : (st.map fun v => v.category).sum ≤ 8) (k1 : ∀ v w', P (.returned v) w' → fxR G nL x Q w' (pc + 3) ls (v.toList ++ st)) (k2 : ∀ a w', P (.threw a) w' → fxRt G nL x Q w' pc ls st a) : fxR G nL x Q w pc ls (a0 :: .ref b :: st) := r_callV (As := [a0]) (Cn := "ForkPoolModel") (ci := 6) C hd lm_Mo_153 (fxTW_in 934 (by decide +kernel) rfl) (fxTW_in 29 (by decide +kernel) rfl) w_Mo_reduced ini_ForkPoolModel (by decide) np_Mo_reduced (by decide) (by decide) rfl hb9 hM hdd hst rfl k1 k2
theorem lm_Mo_157 : Cond.methodLink "ForkPoolModel" 157 y_Mo_spread ∈ fxTW := fxTW_in 936 (by decide +kernel) rfl
theorem c_Mo_157 {G : fxG} {d nL : Nat} {cc : ByteArray} {nm : String} {ret : Option FieldType} {hh : List (Nat × Nat × Nat × Nat)} {x : fxX} {Q : State → Prop} {w : fxW} {pc : Nat} {ls : List (Nat × Value)} {st : List Value} (C : fxC G d cc nL "ForkPoolModel" nm ret hh x) {b n0 d' : Nat} {a0 : Value} {P : Outcome → fxW → Prop} (hd : decode cc pc = .ok (.invokevirtual 157, 3)) (hb9 : fxk w b = some (6, n0)) (hM : fxM G d' y_Mo_spread (.ref b :: [a0]) w P) (hdd : d' < d) (hst : (st.map fun v => v.category).sum ≤ 8) (k1 : ∀ v w', P (.returned v) w' → fxR G nL x Q w' (pc + 3) ls (v.toList ++ st)) (k2 : ∀ a w', P (.threw a) w' → fxRt G nL x Q w' pc ls st a) : fxR G nL x Q w pc ls (a0 :: .ref b :: st) := r_callV (As := [a0]) (Cn := "ForkPoolModel") (ci := 6) C hd lm_Mo_157 (fxTW_in 938 (by decide +kernel) rfl) (fxTW_in 30 (by decide +kernel) rfl) w_Mo_spread ini_ForkPoolModel (by decide) np_Mo_spread (by decide) (by decide) rfl hb9 hM hdd hst rfl k1 k2
theorem lm_Mo_161 : Cond.methodLink "ForkPoolModel" 161 y_Mo_order ∈ fxTW := fxTW_in 940 (by decide +kernel) rfl
theorem c_Mo_161 {G : fxG} {d nL : Nat} {cc : ByteArray} {nm : String} {ret : Option FieldType} {hh : List (Nat × Nat × Nat × Nat)} {x : fxX} {Q : State → Prop} {w : fxW} {pc : Nat} {ls : List (Nat × Value)} {st : List Value} (C : fxC G d cc nL "ForkPoolModel" nm ret hh x) {b n0 d' : Nat} {a0 a1 a2 : Value} {P : Outcome → fxW → Prop} (hd : decode cc pc = .ok (.invokevirtual 161, 3)) (hb9 : fxk w b = some (6, n0)) (hM : fxM G d' y_Mo_order (.ref b :: [a0, a1, a2]) w P) (hdd : d' < d) (hst : (st.map fun v => v.category).sum ≤ 8) (k1 : ∀ v w', P (.returned v) w' → fxR G nL x Q w' (pc + 3) ls (v.toList ++ st)) (k2 : ∀ a w', P (.threw a) w' → fxRt G nL x Q w' pc ls st a) : fxR G nL x Q w pc ls (a2 :: a1 :: a0 :: .ref b :: st) := r_callV (As := [a0, a1, a2]) (Cn := "ForkPoolModel") (ci := 6) C hd lm_Mo_161 (fxTW_in 942 (by decide +kernel) rfl) (fxTW_in 31 (by decide +kernel) rfl) w_Mo_order ini_ForkPoolModel (by decide) np_Mo_order (by decide) (by decide) rfl hb9 hM hdd hst rfl k1 k2
theorem lm_Mo_165 : Cond.methodLink "ForkPoolModel" 165 y_Mo_end ∈ fxTW := fxTW_in 944 (by decide +kernel) rfl
theorem c_Mo_165 {G : fxG} {d nL : Nat} {cc : ByteArray} {nm : String} {ret : Option FieldType} {hh : List (Nat × Nat × Nat × Nat)} {x : fxX} {Q : State → Prop} {w : fxW} {pc : Nat} {ls : List (Nat × Value)} {st : List Value} (C : fxC G d cc nL "ForkPoolModel" nm ret hh x) {b n0 d' : Nat} {a0 a1 : Value} {P : Outcome → fxW → Prop} (hd : decode cc pc = .ok (.invokevirtual 165, 3)) (hb9 : fxk w b = some (6, n0)) (hM : fxM G d' y_Mo_end (.ref b :: [a0, a1]) w P) (hdd : d' < d) (hst : (st.map fun v => v.category).sum ≤ 8) (k1 : ∀ v w', P (.returned v) w' → fxR G nL x Q w' (pc + 3) ls (v.toList ++ st)) (k2 : ∀ a w', P (.threw a) w' → fxRt G nL x Q w' pc ls st a) : fxR G nL x Q w pc ls (a1 :: a0 :: .ref b :: st) := r_callV (As := [a0, a1]) (Cn := "ForkPoolModel") (ci := 6) C hd lm_Mo_165 (fxTW_in 946 (by decide +kernel) rfl) (fxTW_in 32 (by decide +kernel) rfl) w_Mo_end ini_ForkPoolModel (by decide) np_Mo_end (by decide) (by decide) rfl hb9 hM hdd hst rfl k1 k2
theorem lm_Mo_168 : Cond.methodLink "ForkPoolModel" 168 y_Mo_mapped ∈ fxTW := fxTW_in 948 (by decide +kernel) rfl
theorem c_Mo_168 {G : fxG} {d nL : Nat} {cc : ByteArray} {nm : String} {ret : Option FieldType} {hh : List (Nat × Nat × Nat × Nat)} {x : fxX} {Q : State → Prop} {w : fxW} {pc : Nat} {ls : List (Nat × Value)} {st : List Value} (C : fxC G d cc nL "ForkPoolModel" nm ret hh x) {b n0 d' : Nat} {a0 a1 : Value} {P : Outcome → fxW → Prop} (hd : decode cc pc = .ok (.invokevirtual 168, 3)) (hb9 : fxk w b = some (6, n0)) (hM : fxM G d' y_Mo_mapped (.ref b :: [a0, a1]) w P) (hdd : d' < d) (hst : (st.map fun v => v.category).sum ≤ 8) (k1 : ∀ v w', P (.returned v) w' → fxR G nL x Q w' (pc + 3) ls (v.toList ++ st)) (k2 : ∀ a w', P (.threw a) w' → fxRt G nL x Q w' pc ls st a) : fxR G nL x Q w pc ls (a1 :: a0 :: .ref b :: st) := r_callV (As := [a0, a1]) (Cn := "ForkPoolModel") (ci := 6) C hd lm_Mo_168 (fxTW_in 950 (by decide +kernel) rfl) (fxTW_in 33 (by decide +kernel) rfl) w_Mo_mapped ini_ForkPoolModel (by decide) np_Mo_mapped (by decide) (by decide) rfl hb9 hM hdd hst rfl k1 k2
theorem lm_Mo_171 : Cond.methodLink "ForkPoolModel" 171 y_Mo_shared ∈ fxTW := fxTW_in 953 (by decide +kernel) rfl
theorem c_Mo_171 {G : fxG} {d nL : Nat} {cc : ByteArray} {nm : String} {ret : Option FieldType} {hh : List (Nat × Nat × Nat × Nat)} {x : fxX} {Q : State → Prop} {w : fxW} {pc : Nat} {ls : List (Nat × Value)} {st : List Value} (C : fxC G d cc nL "ForkPoolModel" nm ret hh x) {b n0 d' : Nat} {a0 a1 : Value} {P : Outcome → fxW → Prop} (hd : decode cc pc = .ok (.invokevirtual 171, 3)) (hb9 : fxk w b = some (6, n0)) (hM : fxM G d' y_Mo_shared (.ref b :: [a0, a1]) w P) (hdd : d' < d) (hst : (st.map fun v => v.category).sum ≤ 8) (k1 : ∀ v w', P (.returned v) w' → fxR G nL x Q w' (pc + 3) ls (v.toList ++ st)) (k2 : ∀ a w', P (.threw a) w' → fxRt G nL x Q w' pc ls st a) : fxR G nL x Q w pc ls (a1 :: a0 :: .ref b :: st) := r_callV (As := [a0, a1]) (Cn := "ForkPoolModel") (ci := 6) C hd lm_Mo_171 (fxTW_in 955 (by decide +kernel) rfl) (fxTW_in 34 (by decide +kernel) rfl) w_Mo_shared ini_ForkPoolModel (by decide) np_Mo_shared (by decide) (by decide) rfl hb9 hM hdd hst rfl k1 k2
theorem lm_Mo_174 : Cond.methodLink "ForkPoolModel" 174 y_Mo_fork ∈ fxTW := fxTW_in 920 (by decide +kernel) rfl
theorem c_Mo_174 {G : fxG} {d nL : Nat} {cc : ByteArray} {nm : String} {ret : Option FieldType} {hh : List (Nat × Nat × Nat × Nat)} {x : fxX} {Q : State → Prop} {w : fxW} {pc : Nat} {ls : List (Nat × Value)} {st : List Value} (C : fxC G d cc nL "ForkPoolModel" nm ret hh x) {b n0 d' : Nat} {a0 a1 : Value} {P : Outcome → fxW → Prop} (hd : decode cc pc = .ok (.invokevirtual 174, 3)) (hb9 : fxk w b = some (6, n0)) (hM : fxM G d' y_Mo_fork (.ref b :: [a0, a1]) w P) (hdd : d' < d) (hst : (st.map fun v => v.category).sum ≤ 8) (k1 : ∀ v w', P (.returned v) w' → fxR G nL x Q w' (pc + 3) ls (v.toList ++ st)) (k2 : ∀ a w', P (.threw a) w' → fxRt G nL x Q w' pc ls st a) : fxR G nL x Q w pc ls (a1 :: a0 :: .ref b :: st) := r_callV (As := [a0, a1]) (Cn := "ForkPoolModel") (ci := 6) C hd lm_Mo_174 (fxTW_in 922 (by decide +kernel) rfl) (fxTW_in 26 (by decide +kernel) rfl) w_Mo_fork ini_ForkPoolModel (by decide) np_Mo_fork (by decide) (by decide) rfl hb9 hM hdd hst rfl k1 k2
theorem lm_Mo_177 : Cond.methodLink "ForkPoolModel" 177 y_Mo_leaf ∈ fxTW := fxTW_in 928 (by decide +kernel) rfl
theorem c_Mo_177 {G : fxG} {d nL : Nat} {cc : ByteArray} {nm : String} {ret : Option FieldType} {hh : List (Nat × Nat × Nat × Nat)} {x : fxX} {Q : State → Prop} {w : fxW} {pc : Nat} {ls : List (Nat × Value)} {st : List Value} (C : fxC G d cc nL "ForkPoolModel" nm ret hh x) {b n0 d' : Nat} {a0 : Value} {P : Outcome → fxW → Prop} (hd : decode cc pc = .ok (.invokevirtual 177, 3)) (hb9 : fxk w b = some (6, n0)) (hM : fxM G d' y_Mo_leaf (.ref b :: [a0]) w P) (hdd : d' < d) (hst : (st.map fun v => v.category).sum ≤ 8) (k1 : ∀ v w', P (.returned v) w' → fxR G nL x Q w' (pc + 3) ls (v.toList ++ st)) (k2 : ∀ a w', P (.threw a) w' → fxRt G nL x Q w' pc ls st a) : fxR G nL x Q w pc ls (a0 :: .ref b :: st) := r_callV (As := [a0]) (Cn := "ForkPoolModel") (ci := 6) C hd lm_Mo_177 (fxTW_in 930 (by decide +kernel) rfl) (fxTW_in 28 (by decide +kernel) rfl) w_Mo_leaf ini_ForkPoolModel (by decide) np_Mo_leaf (by decide) (by decide) rfl hb9 hM hdd hst rfl k1 k2
theorem lm_Mo_180 : Cond.methodLink "ForkPoolModel" 180 y_Mo_finished ∈ fxTW := fxTW_in 961 (by decide +kernel) rfl
theorem c_Mo_180 {G : fxG} {d nL : Nat} {cc : ByteArray} {nm : String} {ret : Option FieldType} {hh : List (Nat × Nat × Nat × Nat)} {x : fxX} {Q : State → Prop} {w : fxW} {pc : Nat} {ls : List (Nat × Value)} {st : List Value} (C : fxC G d cc nL "ForkPoolModel" nm ret hh x) {b n0 d' : Nat} {a0 a1 : Value} {P : Outcome → fxW → Prop} (hd : decode cc pc = .ok (.invokevirtual 180, 3)) (hb9 : fxk w b = some (6, n0)) (hM : fxM G d' y_Mo_finished (.ref b :: [a0, a1]) w P) (hdd : d' < d) (hst : (st.map fun v => v.category).sum ≤ 8) (k1 : ∀ v w', P (.returned v) w' → fxR G nL x Q w' (pc + 3) ls (v.toList ++ st)) (k2 : ∀ a w', P (.threw a) w' → fxRt G nL x Q w' pc ls st a) : fxR G nL x Q w pc ls (a1 :: a0 :: .ref b :: st) := r_callV (As := [a0, a1]) (Cn := "ForkPoolModel") (ci := 6) C hd lm_Mo_180 (fxTW_in 963 (by decide +kernel) rfl) (fxTW_in 35 (by decide +kernel) rfl) w_Mo_finished ini_ForkPoolModel (by decide) np_Mo_finished (by decide) (by decide) rfl hb9 hM hdd hst rfl k1 k2
theorem lm_Mo_189 : Cond.methodLink "ForkPoolModel" 189 y_Mo_perform ∈ fxTW := fxTW_in 916 (by decide +kernel) rfl
theorem c_Mo_189 {G : fxG} {d nL : Nat} {cc : ByteArray} {nm : String} {ret : Option FieldType} {hh : List (Nat × Nat × Nat × Nat)} {x : fxX} {Q : State → Prop} {w : fxW} {pc : Nat} {ls : List (Nat × Value)} {st : List Value} (C : fxC G d cc nL "ForkPoolModel" nm ret hh x) {b n0 d' : Nat} {a0 a1 : Value} {P : Outcome → fxW → Prop} (hd : decode cc pc = .ok (.invokevirtual 189, 3)) (hb9 : fxk w b = some (6, n0)) (hM : fxM G d' y_Mo_perform (.ref b :: [a0, a1]) w P) (hdd : d' < d) (hst : (st.map fun v => v.category).sum ≤ 8) (k1 : ∀ v w', P (.returned v) w' → fxR G nL x Q w' (pc + 3) ls (v.toList ++ st)) (k2 : ∀ a w', P (.threw a) w' → fxRt G nL x Q w' pc ls st a) : fxR G nL x Q w pc ls (a1 :: a0 :: .ref b :: st) := r_callV (As := [a0, a1]) (Cn := "ForkPoolModel") (ci := 6) C hd lm_Mo_189 (fxTW_in 918 (by decide +kernel) rfl) (fxTW_in 25 (by decide +kernel) rfl) w_Mo_perform ini_ForkPoolModel (by decide) np_Mo_perform (by decide) (by decide) rfl hb9 hM hdd hst rfl k1 k2
theorem lm_Mo_192 : Cond.methodLink "ForkPoolModel" 192 y_Mo_turns ∈ fxTW := fxTW_in 908 (by decide +kernel) rfl
theorem c_Mo_192 {G : fxG} {d nL : Nat} {cc : ByteArray} {nm : String} {ret : Option FieldType} {hh : List (Nat × Nat × Nat × Nat)} {x : fxX} {Q : State → Prop} {w : fxW} {pc : Nat} {ls : List (Nat × Value)} {st : List Value} (C : fxC G d cc nL "ForkPoolModel" nm ret hh x) {b n0 d' : Nat} {P : Outcome → fxW → Prop} (hd : decode cc pc = .ok (.invokevirtual 192, 3)) (hb9 : fxk w b = some (6, n0)) (hM : fxM G d' y_Mo_turns (.ref b :: []) w P) (hdd : d' < d) (hst : (st.map fun v => v.category).sum ≤ 8) (k1 : ∀ v w', P (.returned v) w' → fxR G nL x Q w' (pc + 3) ls (v.toList ++ st)) (k2 : ∀ a w', P (.threw a) w' → fxRt G nL x Q w' pc ls st a) : fxR G nL x Q w pc ls (.ref b :: st) := r_callV (As := []) (Cn := "ForkPoolModel") (ci := 6) C hd lm_Mo_192 (fxTW_in 910 (by decide +kernel) rfl) (fxTW_in 23 (by decide +kernel) rfl) w_Mo_turns ini_ForkPoolModel (by decide) np_Mo_turns (by decide) (by decide) rfl hb9 hM hdd hst rfl k1 k2
theorem lm_Mo_196 : Cond.methodLink "ForkPoolModel" 196 y_Mo_noJob ∈ fxTW := fxTW_in 969 (by decide +kernel) rfl
theorem c_Mo_196 {G : fxG} {d nL : Nat} {cc : ByteArray} {nm : String} {ret : Option FieldType} {hh : List (Nat × Nat × Nat × Nat)} {x : fxX} {Q : State → Prop} {w : fxW} {pc : Nat} {ls : List (Nat × Value)} {st : List Value} (C : fxC G d cc nL "ForkPoolModel" nm ret hh x) {b n0 d' : Nat} {a0 : Value} {P : Outcome → fxW → Prop} (hd : decode cc pc = .ok (.invokevirtual 196, 3)) (hb9 : fxk w b = some (6, n0)) (hM : fxM G d' y_Mo_noJob (.ref b :: [a0]) w P) (hdd : d' < d) (hst : (st.map fun v => v.category).sum ≤ 8) (k1 : ∀ v w', P (.returned v) w' → fxR G nL x Q w' (pc + 3) ls (v.toList ++ st)) (k2 : ∀ a w', P (.threw a) w' → fxRt G nL x Q w' pc ls st a) : fxR G nL x Q w pc ls (a0 :: .ref b :: st) := r_callV (As := [a0]) (Cn := "ForkPoolModel") (ci := 6) C hd lm_Mo_196 (fxTW_in 971 (by decide +kernel) rfl) (fxTW_in 36 (by decide +kernel) rfl) w_Mo_noJob ini_ForkPoolModel (by decide) np_Mo_noJob (by decide) (by decide) rfl hb9 hM hdd hst rfl k1 k2
theorem lm_Mo_199 : Cond.methodLink "ForkPoolModel" 199 y_Mo_inQueues ∈ fxTW := fxTW_in 981 (by decide +kernel) rfl
theorem c_Mo_199 {G : fxG} {d nL : Nat} {cc : ByteArray} {nm : String} {ret : Option FieldType} {hh : List (Nat × Nat × Nat × Nat)} {x : fxX} {Q : State → Prop} {w : fxW} {pc : Nat} {ls : List (Nat × Value)} {st : List Value} (C : fxC G d cc nL "ForkPoolModel" nm ret hh x) {b n0 d' : Nat} {a0 : Value} {P : Outcome → fxW → Prop} (hd : decode cc pc = .ok (.invokevirtual 199, 3)) (hb9 : fxk w b = some (6, n0)) (hM : fxM G d' y_Mo_inQueues (.ref b :: [a0]) w P) (hdd : d' < d) (hst : (st.map fun v => v.category).sum ≤ 8) (k1 : ∀ v w', P (.returned v) w' → fxR G nL x Q w' (pc + 3) ls (v.toList ++ st)) (k2 : ∀ a w', P (.threw a) w' → fxRt G nL x Q w' pc ls st a) : fxR G nL x Q w pc ls (a0 :: .ref b :: st) := r_callV (As := [a0]) (Cn := "ForkPoolModel") (ci := 6) C hd lm_Mo_199 (fxTW_in 983 (by decide +kernel) rfl) (fxTW_in 37 (by decide +kernel) rfl) w_Mo_inQueues ini_ForkPoolModel (by decide) np_Mo_inQueues (by decide) (by decide) rfl hb9 hM hdd hst rfl k1 k2
theorem p_Mo_7F {G : fxG} {d nL : Nat} {cc : ByteArray} {nm : String} {ret : Option FieldType} {hh : List (Nat × Nat × Nat × Nat)} {x : fxX} {Q : State → Prop} {w : fxW} {pc : Nat} {ls : List (Nat × Value)} {st : List Value} (C : fxC G d cc nL "ForkPoolModel" "<init>" ret hh x) {a n : Nat} {v : Value} (hd : decode cc pc = .ok (.putfield 7, 3)) (hn : narrow (tMo 2) v = v) (hfit : fits (tMo 2) v = true) (ha : fxk w a = some (6, n)) (k : fxR G nL x Q (fx_put w 386 a v) (pc + 3) ls st) : fxR G nL x Q w pc ls (v :: .ref a :: st) := r_putF (Cn := RMo) (T := FMo) (N := 33) (ci := 6) (k0 := 2) C hd rfl (by decide) inMo tMo tyMo nmMo (by decide) lk_Mo_7 (Or.inl rfl) rfl rfl (tyMo 2 (by decide)) hn hfit ha k
theorem p_Mo_13F {G : fxG} {d nL : Nat} {cc : ByteArray} {nm : String} {ret : Option FieldType} {hh : List (Nat × Nat × Nat × Nat)} {x : fxX} {Q : State → Prop} {w : fxW} {pc : Nat} {ls : List (Nat × Value)} {st : List Value} (C : fxC G d cc nL "ForkPoolModel" "<init>" ret hh x) {a n : Nat} {v : Value} (hd : decode cc pc = .ok (.putfield 13, 3)) (hn : narrow (tMo 3) v = v) (hfit : fits (tMo 3) v = true) (ha : fxk w a = some (6, n)) (k : fxR G nL x Q (fx_put w 387 a v) (pc + 3) ls st) : fxR G nL x Q w pc ls (v :: .ref a :: st) := r_putF (Cn := RMo) (T := FMo) (N := 33) (ci := 6) (k0 := 3) C hd rfl (by decide) inMo tMo tyMo nmMo (by decide) lk_Mo_13 (Or.inl rfl) rfl rfl (tyMo 3 (by decide)) hn hfit ha k
theorem p_Mo_16F {G : fxG} {d nL : Nat} {cc : ByteArray} {nm : String} {ret : Option FieldType} {hh : List (Nat × Nat × Nat × Nat)} {x : fxX} {Q : State → Prop} {w : fxW} {pc : Nat} {ls : List (Nat × Value)} {st : List Value} (C : fxC G d cc nL "ForkPoolModel" "<init>" ret hh x) {a n : Nat} {v : Value} (hd : decode cc pc = .ok (.putfield 16, 3)) (hn : narrow (tMo 4) v = v) (hfit : fits (tMo 4) v = true) (ha : fxk w a = some (6, n)) (k : fxR G nL x Q (fx_put w 388 a v) (pc + 3) ls st) : fxR G nL x Q w pc ls (v :: .ref a :: st) := r_putF (Cn := RMo) (T := FMo) (N := 33) (ci := 6) (k0 := 4) C hd rfl (by decide) inMo tMo tyMo nmMo (by decide) lk_Mo_16 (Or.inl rfl) rfl rfl (tyMo 4 (by decide)) hn hfit ha k
theorem p_Mo_20F {G : fxG} {d nL : Nat} {cc : ByteArray} {nm : String} {ret : Option FieldType} {hh : List (Nat × Nat × Nat × Nat)} {x : fxX} {Q : State → Prop} {w : fxW} {pc : Nat} {ls : List (Nat × Value)} {st : List Value} (C : fxC G d cc nL "ForkPoolModel" "<init>" ret hh x) {a n : Nat} {v : Value} (hd : decode cc pc = .ok (.putfield 20, 3)) (hn : narrow (tMo 5) v = v) (hfit : fits (tMo 5) v = true) (ha : fxk w a = some (6, n)) (k : fxR G nL x Q (fx_put w 389 a v) (pc + 3) ls st) : fxR G nL x Q w pc ls (v :: .ref a :: st) := r_putF (Cn := RMo) (T := FMo) (N := 33) (ci := 6) (k0 := 5) C hd rfl (by decide) inMo tMo tyMo nmMo (by decide) lk_Mo_20 (Or.inl rfl) rfl rfl (tyMo 5 (by decide)) hn hfit ha k
theorem p_Mo_23F {G : fxG} {d nL : Nat} {cc : ByteArray} {nm : String} {ret : Option FieldType} {hh : List (Nat × Nat × Nat × Nat)} {x : fxX} {Q : State → Prop} {w : fxW} {pc : Nat} {ls : List (Nat × Value)} {st : List Value} (C : fxC G d cc nL "ForkPoolModel" "<init>" ret hh x) {a n : Nat} {v : Value} (hd : decode cc pc = .ok (.putfield 23, 3)) (hn : narrow (tMo 6) v = v) (hfit : fits (tMo 6) v = true) (ha : fxk w a = some (6, n)) (k : fxR G nL x Q (fx_put w 390 a v) (pc + 3) ls st) : fxR G nL x Q w pc ls (v :: .ref a :: st) := r_putF (Cn := RMo) (T := FMo) (N := 33) (ci := 6) (k0 := 6) C hd rfl (by decide) inMo tMo tyMo nmMo (by decide) lk_Mo_23 (Or.inl rfl) rfl rfl (tyMo 6 (by decide)) hn hfit ha k
theorem p_Mo_26F {G : fxG} {d nL : Nat} {cc : ByteArray} {nm : String} {ret : Option FieldType} {hh : List (Nat × Nat × Nat × Nat)} {x : fxX} {Q : State → Prop} {w : fxW} {pc : Nat} {ls : List (Nat × Value)} {st : List Value} (C : fxC G d cc nL "ForkPoolModel" "<init>" ret hh x) {a n : Nat} {v : Value} (hd : decode cc pc = .ok (.putfield 26, 3)) (hn : narrow (tMo 7) v = v) (hfit : fits (tMo 7) v = true) (ha : fxk w a = some (6, n)) (k : fxR G nL x Q (fx_put w 391 a v) (pc + 3) ls st) : fxR G nL x Q w pc ls (v :: .ref a :: st) := r_putF (Cn := RMo) (T := FMo) (N := 33) (ci := 6) (k0 := 7) C hd rfl (by decide) inMo tMo tyMo nmMo (by decide) lk_Mo_26 (Or.inl rfl) rfl rfl (tyMo 7 (by decide)) hn hfit ha k
theorem p_Mo_29F {G : fxG} {d nL : Nat} {cc : ByteArray} {nm : String} {ret : Option FieldType} {hh : List (Nat × Nat × Nat × Nat)} {x : fxX} {Q : State → Prop} {w : fxW} {pc : Nat} {ls : List (Nat × Value)} {st : List Value} (C : fxC G d cc nL "ForkPoolModel" "<init>" ret hh x) {a n : Nat} {v : Value} (hd : decode cc pc = .ok (.putfield 29, 3)) (hn : narrow (tMo 8) v = v) (hfit : fits (tMo 8) v = true) (ha : fxk w a = some (6, n)) (k : fxR G nL x Q (fx_put w 392 a v) (pc + 3) ls st) : fxR G nL x Q w pc ls (v :: .ref a :: st) := r_putF (Cn := RMo) (T := FMo) (N := 33) (ci := 6) (k0 := 8) C hd rfl (by decide) inMo tMo tyMo nmMo (by decide) lk_Mo_29 (Or.inl rfl) rfl rfl (tyMo 8 (by decide)) hn hfit ha k
theorem p_Mo_32F {G : fxG} {d nL : Nat} {cc : ByteArray} {nm : String} {ret : Option FieldType} {hh : List (Nat × Nat × Nat × Nat)} {x : fxX} {Q : State → Prop} {w : fxW} {pc : Nat} {ls : List (Nat × Value)} {st : List Value} (C : fxC G d cc nL "ForkPoolModel" "<init>" ret hh x) {a n : Nat} {v : Value} (hd : decode cc pc = .ok (.putfield 32, 3)) (hn : narrow (tMo 9) v = v) (hfit : fits (tMo 9) v = true) (ha : fxk w a = some (6, n)) (k : fxR G nL x Q (fx_put w 393 a v) (pc + 3) ls st) : fxR G nL x Q w pc ls (v :: .ref a :: st) := r_putF (Cn := RMo) (T := FMo) (N := 33) (ci := 6) (k0 := 9) C hd rfl (by decide) inMo tMo tyMo nmMo (by decide) lk_Mo_32 (Or.inl rfl) rfl rfl (tyMo 9 (by decide)) hn hfit ha k
theorem p_Mo_35F {G : fxG} {d nL : Nat} {cc : ByteArray} {nm : String} {ret : Option FieldType} {hh : List (Nat × Nat × Nat × Nat)} {x : fxX} {Q : State → Prop} {w : fxW} {pc : Nat} {ls : List (Nat × Value)} {st : List Value} (C : fxC G d cc nL "ForkPoolModel" "<init>" ret hh x) {a n : Nat} {v : Value} (hd : decode cc pc = .ok (.putfield 35, 3)) (hn : narrow (tMo 10) v = v) (hfit : fits (tMo 10) v = true) (ha : fxk w a = some (6, n)) (k : fxR G nL x Q (fx_put w 394 a v) (pc + 3) ls st) : fxR G nL x Q w pc ls (v :: .ref a :: st) := r_putF (Cn := RMo) (T := FMo) (N := 33) (ci := 6) (k0 := 10) C hd rfl (by decide) inMo tMo tyMo nmMo (by decide) lk_Mo_35 (Or.inl rfl) rfl rfl (tyMo 10 (by decide)) hn hfit ha k
theorem p_Mo_38F {G : fxG} {d nL : Nat} {cc : ByteArray} {nm : String} {ret : Option FieldType} {hh : List (Nat × Nat × Nat × Nat)} {x : fxX} {Q : State → Prop} {w : fxW} {pc : Nat} {ls : List (Nat × Value)} {st : List Value} (C : fxC G d cc nL "ForkPoolModel" "<init>" ret hh x) {a n : Nat} {v : Value} (hd : decode cc pc = .ok (.putfield 38, 3)) (hn : narrow (tMo 11) v = v) (hfit : fits (tMo 11) v = true) (ha : fxk w a = some (6, n)) (k : fxR G nL x Q (fx_put w 395 a v) (pc + 3) ls st) : fxR G nL x Q w pc ls (v :: .ref a :: st) := r_putF (Cn := RMo) (T := FMo) (N := 33) (ci := 6) (k0 := 11) C hd rfl (by decide) inMo tMo tyMo nmMo (by decide) lk_Mo_38 (Or.inl rfl) rfl rfl (tyMo 11 (by decide)) hn hfit ha k
theorem p_Mo_41F {G : fxG} {d nL : Nat} {cc : ByteArray} {nm : String} {ret : Option FieldType} {hh : List (Nat × Nat × Nat × Nat)} {x : fxX} {Q : State → Prop} {w : fxW} {pc : Nat} {ls : List (Nat × Value)} {st : List Value} (C : fxC G d cc nL "ForkPoolModel" "<init>" ret hh x) {a n : Nat} {v : Value} (hd : decode cc pc = .ok (.putfield 41, 3)) (hn : narrow (tMo 12) v = v) (hfit : fits (tMo 12) v = true) (ha : fxk w a = some (6, n)) (k : fxR G nL x Q (fx_put w 396 a v) (pc + 3) ls st) : fxR G nL x Q w pc ls (v :: .ref a :: st) := r_putF (Cn := RMo) (T := FMo) (N := 33) (ci := 6) (k0 := 12) C hd rfl (by decide) inMo tMo tyMo nmMo (by decide) lk_Mo_41 (Or.inl rfl) rfl rfl (tyMo 12 (by decide)) hn hfit ha k
theorem p_Mo_44F {G : fxG} {d nL : Nat} {cc : ByteArray} {nm : String} {ret : Option FieldType} {hh : List (Nat × Nat × Nat × Nat)} {x : fxX} {Q : State → Prop} {w : fxW} {pc : Nat} {ls : List (Nat × Value)} {st : List Value} (C : fxC G d cc nL "ForkPoolModel" "<init>" ret hh x) {a n : Nat} {v : Value} (hd : decode cc pc = .ok (.putfield 44, 3)) (hn : narrow (tMo 13) v = v) (hfit : fits (tMo 13) v = true) (ha : fxk w a = some (6, n)) (k : fxR G nL x Q (fx_put w 397 a v) (pc + 3) ls st) : fxR G nL x Q w pc ls (v :: .ref a :: st) := r_putF (Cn := RMo) (T := FMo) (N := 33) (ci := 6) (k0 := 13) C hd rfl (by decide) inMo tMo tyMo nmMo (by decide) lk_Mo_44 (Or.inl rfl) rfl rfl (tyMo 13 (by decide)) hn hfit ha k
theorem p_Mo_47F {G : fxG} {d nL : Nat} {cc : ByteArray} {nm : String} {ret : Option FieldType} {hh : List (Nat × Nat × Nat × Nat)} {x : fxX} {Q : State → Prop} {w : fxW} {pc : Nat} {ls : List (Nat × Value)} {st : List Value} (C : fxC G d cc nL "ForkPoolModel" "<init>" ret hh x) {a n : Nat} {v : Value} (hd : decode cc pc = .ok (.putfield 47, 3)) (hn : narrow (tMo 15) v = v) (hfit : fits (tMo 15) v = true) (ha : fxk w a = some (6, n)) (k : fxR G nL x Q (fx_put w 399 a v) (pc + 3) ls st) : fxR G nL x Q w pc ls (v :: .ref a :: st) := r_putF (Cn := RMo) (T := FMo) (N := 33) (ci := 6) (k0 := 15) C hd rfl (by decide) inMo tMo tyMo nmMo (by decide) lk_Mo_47 (Or.inl rfl) rfl rfl (tyMo 15 (by decide)) hn hfit ha k
theorem p_Mo_50F {G : fxG} {d nL : Nat} {cc : ByteArray} {nm : String} {ret : Option FieldType} {hh : List (Nat × Nat × Nat × Nat)} {x : fxX} {Q : State → Prop} {w : fxW} {pc : Nat} {ls : List (Nat × Value)} {st : List Value} (C : fxC G d cc nL "ForkPoolModel" "<init>" ret hh x) {a n : Nat} {v : Value} (hd : decode cc pc = .ok (.putfield 50, 3)) (hn : narrow (tMo 16) v = v) (hfit : fits (tMo 16) v = true) (ha : fxk w a = some (6, n)) (k : fxR G nL x Q (fx_put w 400 a v) (pc + 3) ls st) : fxR G nL x Q w pc ls (v :: .ref a :: st) := r_putF (Cn := RMo) (T := FMo) (N := 33) (ci := 6) (k0 := 16) C hd rfl (by decide) inMo tMo tyMo nmMo (by decide) lk_Mo_50 (Or.inl rfl) rfl rfl (tyMo 16 (by decide)) hn hfit ha k
theorem p_Mo_53F {G : fxG} {d nL : Nat} {cc : ByteArray} {nm : String} {ret : Option FieldType} {hh : List (Nat × Nat × Nat × Nat)} {x : fxX} {Q : State → Prop} {w : fxW} {pc : Nat} {ls : List (Nat × Value)} {st : List Value} (C : fxC G d cc nL "ForkPoolModel" "<init>" ret hh x) {a n : Nat} {v : Value} (hd : decode cc pc = .ok (.putfield 53, 3)) (hn : narrow (tMo 17) v = v) (hfit : fits (tMo 17) v = true) (ha : fxk w a = some (6, n)) (k : fxR G nL x Q (fx_put w 401 a v) (pc + 3) ls st) : fxR G nL x Q w pc ls (v :: .ref a :: st) := r_putF (Cn := RMo) (T := FMo) (N := 33) (ci := 6) (k0 := 17) C hd rfl (by decide) inMo tMo tyMo nmMo (by decide) lk_Mo_53 (Or.inl rfl) rfl rfl (tyMo 17 (by decide)) hn hfit ha k
theorem p_Mo_56F {G : fxG} {d nL : Nat} {cc : ByteArray} {nm : String} {ret : Option FieldType} {hh : List (Nat × Nat × Nat × Nat)} {x : fxX} {Q : State → Prop} {w : fxW} {pc : Nat} {ls : List (Nat × Value)} {st : List Value} (C : fxC G d cc nL "ForkPoolModel" "<init>" ret hh x) {a n : Nat} {v : Value} (hd : decode cc pc = .ok (.putfield 56, 3)) (hn : narrow (tMo 18) v = v) (hfit : fits (tMo 18) v = true) (ha : fxk w a = some (6, n)) (k : fxR G nL x Q (fx_put w 402 a v) (pc + 3) ls st) : fxR G nL x Q w pc ls (v :: .ref a :: st) := r_putF (Cn := RMo) (T := FMo) (N := 33) (ci := 6) (k0 := 18) C hd rfl (by decide) inMo tMo tyMo nmMo (by decide) lk_Mo_56 (Or.inl rfl) rfl rfl (tyMo 18 (by decide)) hn hfit ha k
theorem p_Mo_59F {G : fxG} {d nL : Nat} {cc : ByteArray} {nm : String} {ret : Option FieldType} {hh : List (Nat × Nat × Nat × Nat)} {x : fxX} {Q : State → Prop} {w : fxW} {pc : Nat} {ls : List (Nat × Value)} {st : List Value} (C : fxC G d cc nL "ForkPoolModel" "<init>" ret hh x) {a n : Nat} {v : Value} (hd : decode cc pc = .ok (.putfield 59, 3)) (hn : narrow (tMo 19) v = v) (hfit : fits (tMo 19) v = true) (ha : fxk w a = some (6, n)) (k : fxR G nL x Q (fx_put w 403 a v) (pc + 3) ls st) : fxR G nL x Q w pc ls (v :: .ref a :: st) := r_putF (Cn := RMo) (T := FMo) (N := 33) (ci := 6) (k0 := 19) C hd rfl (by decide) inMo tMo tyMo nmMo (by decide) lk_Mo_59 (Or.inl rfl) rfl rfl (tyMo 19 (by decide)) hn hfit ha k
theorem p_Mo_62F {G : fxG} {d nL : Nat} {cc : ByteArray} {nm : String} {ret : Option FieldType} {hh : List (Nat × Nat × Nat × Nat)} {x : fxX} {Q : State → Prop} {w : fxW} {pc : Nat} {ls : List (Nat × Value)} {st : List Value} (C : fxC G d cc nL "ForkPoolModel" "<init>" ret hh x) {a n : Nat} {v : Value} (hd : decode cc pc = .ok (.putfield 62, 3)) (hn : narrow (tMo 20) v = v) (hfit : fits (tMo 20) v = true) (ha : fxk w a = some (6, n)) (k : fxR G nL x Q (fx_put w 404 a v) (pc + 3) ls st) : fxR G nL x Q w pc ls (v :: .ref a :: st) := r_putF (Cn := RMo) (T := FMo) (N := 33) (ci := 6) (k0 := 20) C hd rfl (by decide) inMo tMo tyMo nmMo (by decide) lk_Mo_62 (Or.inl rfl) rfl rfl (tyMo 20 (by decide)) hn hfit ha k
theorem p_Mo_65F {G : fxG} {d nL : Nat} {cc : ByteArray} {nm : String} {ret : Option FieldType} {hh : List (Nat × Nat × Nat × Nat)} {x : fxX} {Q : State → Prop} {w : fxW} {pc : Nat} {ls : List (Nat × Value)} {st : List Value} (C : fxC G d cc nL "ForkPoolModel" "<init>" ret hh x) {a n : Nat} {v : Value} (hd : decode cc pc = .ok (.putfield 65, 3)) (hn : narrow (tMo 21) v = v) (hfit : fits (tMo 21) v = true) (ha : fxk w a = some (6, n)) (k : fxR G nL x Q (fx_put w 405 a v) (pc + 3) ls st) : fxR G nL x Q w pc ls (v :: .ref a :: st) := r_putF (Cn := RMo) (T := FMo) (N := 33) (ci := 6) (k0 := 21) C hd rfl (by decide) inMo tMo tyMo nmMo (by decide) lk_Mo_65 (Or.inl rfl) rfl rfl (tyMo 21 (by decide)) hn hfit ha k
theorem p_Mo_68F {G : fxG} {d nL : Nat} {cc : ByteArray} {nm : String} {ret : Option FieldType} {hh : List (Nat × Nat × Nat × Nat)} {x : fxX} {Q : State → Prop} {w : fxW} {pc : Nat} {ls : List (Nat × Value)} {st : List Value} (C : fxC G d cc nL "ForkPoolModel" "<init>" ret hh x) {a n : Nat} {v : Value} (hd : decode cc pc = .ok (.putfield 68, 3)) (hn : narrow (tMo 22) v = v) (hfit : fits (tMo 22) v = true) (ha : fxk w a = some (6, n)) (k : fxR G nL x Q (fx_put w 406 a v) (pc + 3) ls st) : fxR G nL x Q w pc ls (v :: .ref a :: st) := r_putF (Cn := RMo) (T := FMo) (N := 33) (ci := 6) (k0 := 22) C hd rfl (by decide) inMo tMo tyMo nmMo (by decide) lk_Mo_68 (Or.inl rfl) rfl rfl (tyMo 22 (by decide)) hn hfit ha k
theorem p_Mo_71F {G : fxG} {d nL : Nat} {cc : ByteArray} {nm : String} {ret : Option FieldType} {hh : List (Nat × Nat × Nat × Nat)} {x : fxX} {Q : State → Prop} {w : fxW} {pc : Nat} {ls : List (Nat × Value)} {st : List Value} (C : fxC G d cc nL "ForkPoolModel" "<init>" ret hh x) {a n : Nat} {v : Value} (hd : decode cc pc = .ok (.putfield 71, 3)) (hn : narrow (tMo 24) v = v) (hfit : fits (tMo 24) v = true) (ha : fxk w a = some (6, n)) (k : fxR G nL x Q (fx_put w 408 a v) (pc + 3) ls st) : fxR G nL x Q w pc ls (v :: .ref a :: st) := r_putF (Cn := RMo) (T := FMo) (N := 33) (ci := 6) (k0 := 24) C hd rfl (by decide) inMo tMo tyMo nmMo (by decide) lk_Mo_71 (Or.inl rfl) rfl rfl (tyMo 24 (by decide)) hn hfit ha k
theorem p_Mo_74F {G : fxG} {d nL : Nat} {cc : ByteArray} {nm : String} {ret : Option FieldType} {hh : List (Nat × Nat × Nat × Nat)} {x : fxX} {Q : State → Prop} {w : fxW} {pc : Nat} {ls : List (Nat × Value)} {st : List Value} (C : fxC G d cc nL "ForkPoolModel" "<init>" ret hh x) {a n : Nat} {v : Value} (hd : decode cc pc = .ok (.putfield 74, 3)) (hn : narrow (tMo 25) v = v) (hfit : fits (tMo 25) v = true) (ha : fxk w a = some (6, n)) (k : fxR G nL x Q (fx_put w 409 a v) (pc + 3) ls st) : fxR G nL x Q w pc ls (v :: .ref a :: st) := r_putF (Cn := RMo) (T := FMo) (N := 33) (ci := 6) (k0 := 25) C hd rfl (by decide) inMo tMo tyMo nmMo (by decide) lk_Mo_74 (Or.inl rfl) rfl rfl (tyMo 25 (by decide)) hn hfit ha k
theorem p_Mo_77F {G : fxG} {d nL : Nat} {cc : ByteArray} {nm : String} {ret : Option FieldType} {hh : List (Nat × Nat × Nat × Nat)} {x : fxX} {Q : State → Prop} {w : fxW} {pc : Nat} {ls : List (Nat × Value)} {st : List Value} (C : fxC G d cc nL "ForkPoolModel" "<init>" ret hh x) {a n : Nat} {v : Value} (hd : decode cc pc = .ok (.putfield 77, 3)) (hn : narrow (tMo 26) v = v) (hfit : fits (tMo 26) v = true) (ha : fxk w a = some (6, n)) (k : fxR G nL x Q (fx_put w 410 a v) (pc + 3) ls st) : fxR G nL x Q w pc ls (v :: .ref a :: st) := r_putF (Cn := RMo) (T := FMo) (N := 33) (ci := 6) (k0 := 26) C hd rfl (by decide) inMo tMo tyMo nmMo (by decide) lk_Mo_77 (Or.inl rfl) rfl rfl (tyMo 26 (by decide)) hn hfit ha k
theorem p_Mo_80F {G : fxG} {d nL : Nat} {cc : ByteArray} {nm : String} {ret : Option FieldType} {hh : List (Nat × Nat × Nat × Nat)} {x : fxX} {Q : State → Prop} {w : fxW} {pc : Nat} {ls : List (Nat × Value)} {st : List Value} (C : fxC G d cc nL "ForkPoolModel" "<init>" ret hh x) {a n : Nat} {v : Value} (hd : decode cc pc = .ok (.putfield 80, 3)) (hn : narrow (tMo 27) v = v) (hfit : fits (tMo 27) v = true) (ha : fxk w a = some (6, n)) (k : fxR G nL x Q (fx_put w 411 a v) (pc + 3) ls st) : fxR G nL x Q w pc ls (v :: .ref a :: st) := r_putF (Cn := RMo) (T := FMo) (N := 33) (ci := 6) (k0 := 27) C hd rfl (by decide) inMo tMo tyMo nmMo (by decide) lk_Mo_80 (Or.inl rfl) rfl rfl (tyMo 27 (by decide)) hn hfit ha k
theorem p_Mo_83F {G : fxG} {d nL : Nat} {cc : ByteArray} {nm : String} {ret : Option FieldType} {hh : List (Nat × Nat × Nat × Nat)} {x : fxX} {Q : State → Prop} {w : fxW} {pc : Nat} {ls : List (Nat × Value)} {st : List Value} (C : fxC G d cc nL "ForkPoolModel" "<init>" ret hh x) {a n : Nat} {v : Value} (hd : decode cc pc = .ok (.putfield 83, 3)) (hn : narrow (tMo 28) v = v) (hfit : fits (tMo 28) v = true) (ha : fxk w a = some (6, n)) (k : fxR G nL x Q (fx_put w 412 a v) (pc + 3) ls st) : fxR G nL x Q w pc ls (v :: .ref a :: st) := r_putF (Cn := RMo) (T := FMo) (N := 33) (ci := 6) (k0 := 28) C hd rfl (by decide) inMo tMo tyMo nmMo (by decide) lk_Mo_83 (Or.inl rfl) rfl rfl (tyMo 28 (by decide)) hn hfit ha k
theorem p_Mo_86F {G : fxG} {d nL : Nat} {cc : ByteArray} {nm : String} {ret : Option FieldType} {hh : List (Nat × Nat × Nat × Nat)} {x : fxX} {Q : State → Prop} {w : fxW} {pc : Nat} {ls : List (Nat × Value)} {st : List Value} (C : fxC G d cc nL "ForkPoolModel" "<init>" ret hh x) {a n : Nat} {v : Value} (hd : decode cc pc = .ok (.putfield 86, 3)) (hn : narrow (tMo 29) v = v) (hfit : fits (tMo 29) v = true) (ha : fxk w a = some (6, n)) (k : fxR G nL x Q (fx_put w 413 a v) (pc + 3) ls st) : fxR G nL x Q w pc ls (v :: .ref a :: st) := r_putF (Cn := RMo) (T := FMo) (N := 33) (ci := 6) (k0 := 29) C hd rfl (by decide) inMo tMo tyMo nmMo (by decide) lk_Mo_86 (Or.inl rfl) rfl rfl (tyMo 29 (by decide)) hn hfit ha k
theorem p_Mo_89 {G : fxG} {d nL : Nat} {cc : ByteArray} {nm : String} {ret : Option FieldType} {hh : List (Nat × Nat × Nat × Nat)} {x : fxX} {Q : State → Prop} {w : fxW} {pc : Nat} {ls : List (Nat × Value)} {st : List Value} (C : fxC G d cc nL "ForkPoolModel" nm ret hh x) {a n : Nat} {v : Value} (hd : decode cc pc = .ok (.putfield 89, 3)) (hn : narrow (tMo 30) v = v) (hfit : fits (tMo 30) v = true) (ha : fxk w a = some (6, n)) (k : fxR G nL x Q (fx_put w 414 a v) (pc + 3) ls st) : fxR G nL x Q w pc ls (v :: .ref a :: st) := r_put (Cn := RMo) (T := FMo) (N := 33) (ci := 6) (k0 := 30) C hd rfl (by decide) inMo tMo tyMo nmMo (by decide) lk_Mo_89 (Or.inl rfl) rfl (tyMo 30 (by decide)) hn hfit ha k
theorem p_Mo_93F {G : fxG} {d nL : Nat} {cc : ByteArray} {nm : String} {ret : Option FieldType} {hh : List (Nat × Nat × Nat × Nat)} {x : fxX} {Q : State → Prop} {w : fxW} {pc : Nat} {ls : List (Nat × Value)} {st : List Value} (C : fxC G d cc nL "ForkPoolModel" "<init>" ret hh x) {a n : Nat} {v : Value} (hd : decode cc pc = .ok (.putfield 93, 3)) (hn : narrow (tMo 1) v = v) (hfit : fits (tMo 1) v = true) (ha : fxk w a = some (6, n)) (k : fxR G nL x Q (fx_put w 385 a v) (pc + 3) ls st) : fxR G nL x Q w pc ls (v :: .ref a :: st) := r_putF (Cn := RMo) (T := FMo) (N := 33) (ci := 6) (k0 := 1) C hd rfl (by decide) inMo tMo tyMo nmMo (by decide) lk_Mo_93 (Or.inl rfl) rfl rfl (tyMo 1 (by decide)) hn hfit ha k
theorem p_Mo_96 {G : fxG} {d nL : Nat} {cc : ByteArray} {nm : String} {ret : Option FieldType} {hh : List (Nat × Nat × Nat × Nat)} {x : fxX} {Q : State → Prop} {w : fxW} {pc : Nat} {ls : List (Nat × Value)} {st : List Value} (C : fxC G d cc nL "ForkPoolModel" nm ret hh x) {a n : Nat} {v : Value} (hd : decode cc pc = .ok (.putfield 96, 3)) (hn : narrow (tMo 0) v = v) (hfit : fits (tMo 0) v = true) (ha : fxk w a = some (6, n)) (k : fxR G nL x Q (fx_put w 384 a v) (pc + 3) ls st) : fxR G nL x Q w pc ls (v :: .ref a :: st) := r_put (Cn := RMo) (T := FMo) (N := 33) (ci := 6) (k0 := 0) C hd rfl (by decide) inMo tMo tyMo nmMo (by decide) lk_Mo_96 (Or.inl rfl) rfl (tyMo 0 (by decide)) hn hfit ha k
theorem p_Mo_103 {G : fxG} {d nL : Nat} {cc : ByteArray} {nm : String} {ret : Option FieldType} {hh : List (Nat × Nat × Nat × Nat)} {x : fxX} {Q : State → Prop} {w : fxW} {pc : Nat} {ls : List (Nat × Value)} {st : List Value} (C : fxC G d cc nL "ForkPoolModel" nm ret hh x) {a n : Nat} {v : Value} (hd : decode cc pc = .ok (.putfield 103, 3)) (hn : narrow (tMo 14) v = v) (hfit : fits (tMo 14) v = true) (ha : fxk w a = some (6, n)) (k : fxR G nL x Q (fx_put w 398 a v) (pc + 3) ls st) : fxR G nL x Q w pc ls (v :: .ref a :: st) := r_put (Cn := RMo) (T := FMo) (N := 33) (ci := 6) (k0 := 14) C hd rfl (by decide) inMo tMo tyMo nmMo (by decide) lk_Mo_103 (Or.inl rfl) rfl (tyMo 14 (by decide)) hn hfit ha k
theorem p_Mo_130 {G : fxG} {d nL : Nat} {cc : ByteArray} {nm : String} {ret : Option FieldType} {hh : List (Nat × Nat × Nat × Nat)} {x : fxX} {Q : State → Prop} {w : fxW} {pc : Nat} {ls : List (Nat × Value)} {st : List Value} (C : fxC G d cc nL "ForkPoolModel" nm ret hh x) {a n : Nat} {v : Value} (hd : decode cc pc = .ok (.putfield 130, 3)) (hn : narrow (tMo 23) v = v) (hfit : fits (tMo 23) v = true) (ha : fxk w a = some (6, n)) (k : fxR G nL x Q (fx_put w 407 a v) (pc + 3) ls st) : fxR G nL x Q w pc ls (v :: .ref a :: st) := r_put (Cn := RMo) (T := FMo) (N := 33) (ci := 6) (k0 := 23) C hd rfl (by decide) inMo tMo tyMo nmMo (by decide) lk_Mo_130 (Or.inl rfl) rfl (tyMo 23 (by decide)) hn hfit ha k
theorem p_Mo_183 {G : fxG} {d nL : Nat} {cc : ByteArray} {nm : String} {ret : Option FieldType} {hh : List (Nat × Nat × Nat × Nat)} {x : fxX} {Q : State → Prop} {w : fxW} {pc : Nat} {ls : List (Nat × Value)} {st : List Value} (C : fxC G d cc nL "ForkPoolModel" nm ret hh x) {a n : Nat} {v : Value} (hd : decode cc pc = .ok (.putfield 183, 3)) (hn : narrow (tMo 32) v = v) (hfit : fits (tMo 32) v = true) (ha : fxk w a = some (6, n)) (k : fxR G nL x Q (fx_put w 416 a v) (pc + 3) ls st) : fxR G nL x Q w pc ls (v :: .ref a :: st) := r_put (Cn := RMo) (T := FMo) (N := 33) (ci := 6) (k0 := 32) C hd rfl (by decide) inMo tMo tyMo nmMo (by decide) lk_Mo_183 (Or.inl rfl) rfl (tyMo 32 (by decide)) hn hfit ha k
theorem p_Mo_186 {G : fxG} {d nL : Nat} {cc : ByteArray} {nm : String} {ret : Option FieldType} {hh : List (Nat × Nat × Nat × Nat)} {x : fxX} {Q : State → Prop} {w : fxW} {pc : Nat} {ls : List (Nat × Value)} {st : List Value} (C : fxC G d cc nL "ForkPoolModel" nm ret hh x) {a n : Nat} {v : Value} (hd : decode cc pc = .ok (.putfield 186, 3)) (hn : narrow (tMo 31) v = v) (hfit : fits (tMo 31) v = true) (ha : fxk w a = some (6, n)) (k : fxR G nL x Q (fx_put w 415 a v) (pc + 3) ls st) : fxR G nL x Q w pc ls (v :: .ref a :: st) := r_put (Cn := RMo) (T := FMo) (N := 33) (ci := 6) (k0 := 31) C hd rfl (by decide) inMo tMo tyMo nmMo (by decide) lk_Mo_186 (Or.inl rfl) rfl (tyMo 31 (by decide)) hn hfit ha k
theorem lm_Ob_105 : Cond.methodLink "java/util/Objects" 105 y_Pc_checkIndex ∈ fxTW := fxTW_in 523 (by decide +kernel) rfl
theorem c_Ob_105 {G : fxG} {d nL : Nat} {cc : ByteArray} {nm : String} {ret : Option FieldType} {hh : List (Nat × Nat × Nat × Nat)} {x : fxX} {Q : State → Prop} {w : fxW} {pc : Nat} {ls : List (Nat × Value)} {st : List Value} (C : fxC G d cc nL "java/util/Objects" nm ret hh x) {d' : Nat} {a0 a1 a2 : Value} {P : Outcome → fxW → Prop} (hd : decode cc pc = .ok (.invokestatic 105, 3)) (hM : fxM G d' y_Pc_checkIndex [a0, a1, a2] w P) (hdd : d' < d) (hst : (st.map fun v => v.category).sum ≤ 8) (k1 : ∀ v w', P (.returned v) w' → fxR G nL x Q w' (pc + 3) ls (v.toList ++ st)) (k2 : ∀ a w', P (.threw a) w' → fxRt G nL x Q w' pc ls st a) : fxR G nL x Q w pc ls (a2 :: a1 :: a0 :: st) := r_callS (As := [a0, a1, a2]) C hd lm_Ob_105 (fxTW_in 524 (by decide +kernel) rfl) w_Pc_checkIndex ini_jdk_internal_util_Preconditions (by decide) np_Pc_checkIndex (by decide) hM hdd hst rfl k1 k2
-- no method word Pc 95 invokestatic
theorem lk_Row_9 : Cond.fieldLink "ForkPool$Row" 9 "ForkPool$Row" "elements" "[J" ∈ fxTW := fxTW_in 77 (by decide +kernel) rfl
theorem g_Row_9 {G : fxG} {d nL : Nat} {cc : ByteArray} {nm : String} {ret : Option FieldType} {hh : List (Nat × Nat × Nat × Nat)} {x : fxX} {Q : State → Prop} {w : fxW} {pc : Nat} {ls : List (Nat × Value)} {st : List Value} (C : fxC G d cc nL "ForkPool$Row" nm ret hh x) {a n : Nat} {v : Value} (hd : decode cc pc = .ok (.getfield 9, 3)) (ha : fxk w a = some (1, n)) (hv : fxf w 64 a = v) (k : fxR G nL x Q w (pc + 3) ls (v :: st)) : fxR G nL x Q w pc ls (.ref a :: st) := r_get (Cn := RRow) (T := FRow) (N := 3) (ci := 1) (k0 := 0) C hd rfl (by decide) inRow (by decide) lk_Row_9 (Or.inl rfl) ha hv k
theorem lk_Row_15 : Cond.fieldLink "ForkPool$Row" 15 "ForkPool$Row" "type" "I" ∈ fxTW := fxTW_in 79 (by decide +kernel) rfl
theorem g_Row_15 {G : fxG} {d nL : Nat} {cc : ByteArray} {nm : String} {ret : Option FieldType} {hh : List (Nat × Nat × Nat × Nat)} {x : fxX} {Q : State → Prop} {w : fxW} {pc : Nat} {ls : List (Nat × Value)} {st : List Value} (C : fxC G d cc nL "ForkPool$Row" nm ret hh x) {a n : Nat} {v : Value} (hd : decode cc pc = .ok (.getfield 15, 3)) (ha : fxk w a = some (1, n)) (hv : fxf w 65 a = v) (k : fxR G nL x Q w (pc + 3) ls (v :: st)) : fxR G nL x Q w pc ls (.ref a :: st) := r_get (Cn := RRow) (T := FRow) (N := 3) (ci := 1) (k0 := 1) C hd rfl (by decide) inRow (by decide) lk_Row_15 (Or.inl rfl) ha hv k
theorem o_Row_3 {G : fxG} {d nL : Nat} {cc : ByteArray} {nm : String} {ret : Option FieldType} {hh : List (Nat × Nat × Nat × Nat)} {x : fxX} {Q : State → Prop} {w : fxW} {pc : Nat} {ls : List (Nat × Value)} {st : List Value} (C : fxC G d cc nL "ForkPool$Row" nm ret hh x) {b : Nat} (hd : decode cc pc = .ok (.invokespecial 3, 3)) (h1 : 1 ≤ d) (hst : (st.map fun v => v.category).sum ≤ 8) (k : fxR G nL x Q w (pc + 3) ls st) : fxR G nL x Q w pc ls (.ref b :: st) := r_objInit C hd (fxTW_in 76 (by decide +kernel) rfl) (fxTW_in 68 (by decide +kernel) rfl) (fxTW_in 69 (by decide +kernel) rfl) h1 hst k
theorem lm_Row_26 : Cond.methodLink "ForkPool$Row" 26 y_Ma_minL ∈ fxTW := fxTW_in 318 (by decide +kernel) rfl
theorem c_Row_26 {G : fxG} {d nL : Nat} {cc : ByteArray} {nm : String} {ret : Option FieldType} {hh : List (Nat × Nat × Nat × Nat)} {x : fxX} {Q : State → Prop} {w : fxW} {pc : Nat} {ls : List (Nat × Value)} {st : List Value} (C : fxC G d cc nL "ForkPool$Row" nm ret hh x) {d' : Nat} {a0 a1 : Value} {P : Outcome → fxW → Prop} (hd : decode cc pc = .ok (.invokestatic 26, 3)) (hM : fxM G d' y_Ma_minL [a0, a1] w P) (hdd : d' < d) (hst : (st.map fun v => v.category).sum ≤ 8) (k1 : ∀ v w', P (.returned v) w' → fxR G nL x Q w' (pc + 3) ls (v.toList ++ st)) (k2 : ∀ a w', P (.threw a) w' → fxRt G nL x Q w' pc ls st a) : fxR G nL x Q w pc ls (a1 :: a0 :: st) := r_callS (As := [a0, a1]) C hd lm_Row_26 (fxTW_in 319 (by decide +kernel) rfl) w_Ma_minL ini_java_lang_Math (by decide) np_Ma_minL (by decide) hM hdd hst rfl k1 k2
theorem lm_Row_32 : Cond.methodLink "ForkPool$Row" 32 y_Ma_maxL ∈ fxTW := fxTW_in 321 (by decide +kernel) rfl
theorem c_Row_32 {G : fxG} {d nL : Nat} {cc : ByteArray} {nm : String} {ret : Option FieldType} {hh : List (Nat × Nat × Nat × Nat)} {x : fxX} {Q : State → Prop} {w : fxW} {pc : Nat} {ls : List (Nat × Value)} {st : List Value} (C : fxC G d cc nL "ForkPool$Row" nm ret hh x) {d' : Nat} {a0 a1 : Value} {P : Outcome → fxW → Prop} (hd : decode cc pc = .ok (.invokestatic 32, 3)) (hM : fxM G d' y_Ma_maxL [a0, a1] w P) (hdd : d' < d) (hst : (st.map fun v => v.category).sum ≤ 8) (k1 : ∀ v w', P (.returned v) w' → fxR G nL x Q w' (pc + 3) ls (v.toList ++ st)) (k2 : ∀ a w', P (.threw a) w' → fxRt G nL x Q w' pc ls st a) : fxR G nL x Q w pc ls (a1 :: a0 :: st) := r_callS (As := [a0, a1]) C hd lm_Row_32 (fxTW_in 322 (by decide +kernel) rfl) w_Ma_maxL ini_java_lang_Math (by decide) np_Ma_maxL (by decide) hM hdd hst rfl k1 k2
theorem lm_Row_45 : Cond.methodLink "ForkPool$Row" 45 y_Ma_floorDiv ∈ fxTW := fxTW_in 586 (by decide +kernel) rfl
theorem c_Row_45 {G : fxG} {d nL : Nat} {cc : ByteArray} {nm : String} {ret : Option FieldType} {hh : List (Nat × Nat × Nat × Nat)} {x : fxX} {Q : State → Prop} {w : fxW} {pc : Nat} {ls : List (Nat × Value)} {st : List Value} (C : fxC G d cc nL "ForkPool$Row" nm ret hh x) {d' : Nat} {a0 a1 : Value} {P : Outcome → fxW → Prop} (hd : decode cc pc = .ok (.invokestatic 45, 3)) (hM : fxM G d' y_Ma_floorDiv [a0, a1] w P) (hdd : d' < d) (hst : (st.map fun v => v.category).sum ≤ 8) (k1 : ∀ v w', P (.returned v) w' → fxR G nL x Q w' (pc + 3) ls (v.toList ++ st)) (k2 : ∀ a w', P (.threw a) w' → fxRt G nL x Q w' pc ls st a) : fxR G nL x Q w pc ls (a1 :: a0 :: st) := r_callS (As := [a0, a1]) C hd lm_Row_45 (fxTW_in 587 (by decide +kernel) rfl) w_Ma_floorDiv ini_java_lang_Math (by decide) np_Ma_floorDiv (by decide) hM hdd hst rfl k1 k2
theorem lm_Row_35 : Cond.methodLink "ForkPool$Row" 35 y_Row_kept ∈ fxTW := fxTW_in 560 (by decide +kernel) rfl
theorem c_Row_35 {G : fxG} {d nL : Nat} {cc : ByteArray} {nm : String} {ret : Option FieldType} {hh : List (Nat × Nat × Nat × Nat)} {x : fxX} {Q : State → Prop} {w : fxW} {pc : Nat} {ls : List (Nat × Value)} {st : List Value} (C : fxC G d cc nL "ForkPool$Row" nm ret hh x) {b n0 d' : Nat} {a0 : Value} {P : Outcome → fxW → Prop} (hd : decode cc pc = .ok (.invokevirtual 35, 3)) (hb9 : fxk w b = some (1, n0)) (hM : fxM G d' y_Row_kept (.ref b :: [a0]) w P) (hdd : d' < d) (hst : (st.map fun v => v.category).sum ≤ 8) (k1 : ∀ v w', P (.returned v) w' → fxR G nL x Q w' (pc + 3) ls (v.toList ++ st)) (k2 : ∀ a w', P (.threw a) w' → fxRt G nL x Q w' pc ls st a) : fxR G nL x Q w pc ls (a0 :: .ref b :: st) := r_callV (As := [a0]) (Cn := "ForkPool$Row") (ci := 1) C hd lm_Row_35 (fxTW_in 313 (by decide +kernel) rfl) (fxTW_in 314 (by decide +kernel) rfl) w_Row_kept ini_ForkPool_Row (by decide) np_Row_kept (by decide) (by decide) rfl hb9 hM hdd hst rfl k1 k2
theorem lm_Row_39 : Cond.methodLink "ForkPool$Row" 39 y_Row_isInEighths ∈ fxTW := fxTW_in 577 (by decide +kernel) rfl
theorem c_Row_39 {G : fxG} {d nL : Nat} {cc : ByteArray} {nm : String} {ret : Option FieldType} {hh : List (Nat × Nat × Nat × Nat)} {x : fxX} {Q : State → Prop} {w : fxW} {pc : Nat} {ls : List (Nat × Value)} {st : List Value} (C : fxC G d cc nL "ForkPool$Row" nm ret hh x) {b n0 d' : Nat} {P : Outcome → fxW → Prop} (hd : decode cc pc = .ok (.invokevirtual 39, 3)) (hb9 : fxk w b = some (1, n0)) (hM : fxM G d' y_Row_isInEighths (.ref b :: []) w P) (hdd : d' < d) (hst : (st.map fun v => v.category).sum ≤ 8) (k1 : ∀ v w', P (.returned v) w' → fxR G nL x Q w' (pc + 3) ls (v.toList ++ st)) (k2 : ∀ a w', P (.threw a) w' → fxRt G nL x Q w' pc ls st a) : fxR G nL x Q w pc ls (.ref b :: st) := r_callV (As := []) (Cn := "ForkPool$Row") (ci := 1) C hd lm_Row_39 (fxTW_in 578 (by decide +kernel) rfl) (fxTW_in 579 (by decide +kernel) rfl) w_Row_isInEighths ini_ForkPool_Row (by decide) np_Row_isInEighths (by decide) (by decide) rfl hb9 hM hdd hst rfl k1 k2
theorem p_Row_9F {G : fxG} {d nL : Nat} {cc : ByteArray} {nm : String} {ret : Option FieldType} {hh : List (Nat × Nat × Nat × Nat)} {x : fxX} {Q : State → Prop} {w : fxW} {pc : Nat} {ls : List (Nat × Value)} {st : List Value} (C : fxC G d cc nL "ForkPool$Row" "<init>" ret hh x) {a n : Nat} {v : Value} (hd : decode cc pc = .ok (.putfield 9, 3)) (hn : narrow (tRow 0) v = v) (hfit : fits (tRow 0) v = true) (ha : fxk w a = some (1, n)) (k : fxR G nL x Q (fx_put w 64 a v) (pc + 3) ls st) : fxR G nL x Q w pc ls (v :: .ref a :: st) := r_putF (Cn := RRow) (T := FRow) (N := 3) (ci := 1) (k0 := 0) C hd rfl (by decide) inRow tRow tyRow nmRow (by decide) lk_Row_9 (Or.inl rfl) rfl rfl (tyRow 0 (by decide)) hn hfit ha k
theorem p_Row_15 {G : fxG} {d nL : Nat} {cc : ByteArray} {nm : String} {ret : Option FieldType} {hh : List (Nat × Nat × Nat × Nat)} {x : fxX} {Q : State → Prop} {w : fxW} {pc : Nat} {ls : List (Nat × Value)} {st : List Value} (C : fxC G d cc nL "ForkPool$Row" nm ret hh x) {a n : Nat} {v : Value} (hd : decode cc pc = .ok (.putfield 15, 3)) (hn : narrow (tRow 1) v = v) (hfit : fits (tRow 1) v = true) (ha : fxk w a = some (1, n)) (k : fxR G nL x Q (fx_put w 65 a v) (pc + 3) ls st) : fxR G nL x Q w pc ls (v :: .ref a :: st) := r_put (Cn := RRow) (T := FRow) (N := 3) (ci := 1) (k0 := 1) C hd rfl (by decide) inRow tRow tyRow nmRow (by decide) lk_Row_15 (Or.inl rfl) rfl (tyRow 1 (by decide)) hn hfit ha k
theorem lk_Row_19 : Cond.fieldLink "ForkPool$Row" 19 "ForkPool$Row" "length" "I" ∈ fxTW := fxTW_in 80 (by decide +kernel) rfl
theorem p_Row_19 {G : fxG} {d nL : Nat} {cc : ByteArray} {nm : String} {ret : Option FieldType} {hh : List (Nat × Nat × Nat × Nat)} {x : fxX} {Q : State → Prop} {w : fxW} {pc : Nat} {ls : List (Nat × Value)} {st : List Value} (C : fxC G d cc nL "ForkPool$Row" nm ret hh x) {a n : Nat} {v : Value} (hd : decode cc pc = .ok (.putfield 19, 3)) (hn : narrow (tRow 2) v = v) (hfit : fits (tRow 2) v = true) (ha : fxk w a = some (1, n)) (k : fxR G nL x Q (fx_put w 66 a v) (pc + 3) ls st) : fxR G nL x Q w pc ls (v :: .ref a :: st) := r_put (Cn := RRow) (T := FRow) (N := 3) (ci := 1) (k0 := 2) C hd rfl (by decide) inRow tRow tyRow nmRow (by decide) lk_Row_19 (Or.inl rfl) rfl (tyRow 2 (by decide)) hn hfit ha k
theorem lk_Task_7 : Cond.fieldLink "ForkPool$Task" 7 "ForkPool$Task" "job" "LForkPool$Job;" ∈ fxTW := fxTW_in 390 (by decide +kernel) rfl
theorem g_Task_7 {G : fxG} {d nL : Nat} {cc : ByteArray} {nm : String} {ret : Option FieldType} {hh : List (Nat × Nat × Nat × Nat)} {x : fxX} {Q : State → Prop} {w : fxW} {pc : Nat} {ls : List (Nat × Value)} {st : List Value} (C : fxC G d cc nL "ForkPool$Task" nm ret hh x) {a n : Nat} {v : Value} (hd : decode cc pc = .ok (.getfield 7, 3)) (ha : fxk w a = some (3, n)) (hv : fxf w 192 a = v) (k : fxR G nL x Q w (pc + 3) ls (v :: st)) : fxR G nL x Q w pc ls (.ref a :: st) := r_get (Cn := RTask) (T := FTask) (N := 9) (ci := 3) (k0 := 0) C hd rfl (by decide) inTask (by decide) lk_Task_7 (Or.inl rfl) ha hv k
theorem lk_Task_17 : Cond.fieldLink "ForkPool$Task" 17 "ForkPool$Task" "from" "I" ∈ fxTW := fxTW_in 395 (by decide +kernel) rfl
theorem g_Task_17 {G : fxG} {d nL : Nat} {cc : ByteArray} {nm : String} {ret : Option FieldType} {hh : List (Nat × Nat × Nat × Nat)} {x : fxX} {Q : State → Prop} {w : fxW} {pc : Nat} {ls : List (Nat × Value)} {st : List Value} (C : fxC G d cc nL "ForkPool$Task" nm ret hh x) {a n : Nat} {v : Value} (hd : decode cc pc = .ok (.getfield 17, 3)) (ha : fxk w a = some (3, n)) (hv : fxf w 194 a = v) (k : fxR G nL x Q w (pc + 3) ls (v :: st)) : fxR G nL x Q w pc ls (.ref a :: st) := r_get (Cn := RTask) (T := FTask) (N := 9) (ci := 3) (k0 := 2) C hd rfl (by decide) inTask (by decide) lk_Task_17 (Or.inl rfl) ha hv k
theorem lk_Task_21 : Cond.fieldLink "ForkPool$Task" 21 "ForkPool$Task" "to" "I" ∈ fxTW := fxTW_in 398 (by decide +kernel) rfl
theorem g_Task_21 {G : fxG} {d nL : Nat} {cc : ByteArray} {nm : String} {ret : Option FieldType} {hh : List (Nat × Nat × Nat × Nat)} {x : fxX} {Q : State → Prop} {w : fxW} {pc : Nat} {ls : List (Nat × Value)} {st : List Value} (C : fxC G d cc nL "ForkPool$Task" nm ret hh x) {a n : Nat} {v : Value} (hd : decode cc pc = .ok (.getfield 21, 3)) (ha : fxk w a = some (3, n)) (hv : fxf w 195 a = v) (k : fxR G nL x Q w (pc + 3) ls (v :: st)) : fxR G nL x Q w pc ls (.ref a :: st) := r_get (Cn := RTask) (T := FTask) (N := 9) (ci := 3) (k0 := 3) C hd rfl (by decide) inTask (by decide) lk_Task_21 (Or.inl rfl) ha hv k
theorem lk_Task_24 : Cond.fieldLink "ForkPool$Task" 24 "ForkPool$Task" "first" "LForkPool$Task;" ∈ fxTW := fxTW_in 401 (by decide +kernel) rfl
theorem g_Task_24 {G : fxG} {d nL : Nat} {cc : ByteArray} {nm : String} {ret : Option FieldType} {hh : List (Nat × Nat × Nat × Nat)} {x : fxX} {Q : State → Prop} {w : fxW} {pc : Nat} {ls : List (Nat × Value)} {st : List Value} (C : fxC G d cc nL "ForkPool$Task" nm ret hh x) {a n : Nat} {v : Value} (hd : decode cc pc = .ok (.getfield 24, 3)) (ha : fxk w a = some (3, n)) (hv : fxf w 196 a = v) (k : fxR G nL x Q w (pc + 3) ls (v :: st)) : fxR G nL x Q w pc ls (.ref a :: st) := r_get (Cn := RTask) (T := FTask) (N := 9) (ci := 3) (k0 := 4) C hd rfl (by decide) inTask (by decide) lk_Task_24 (Or.inl rfl) ha hv k
theorem lk_Task_27 : Cond.fieldLink "ForkPool$Task" 27 "ForkPool$Task" "second" "LForkPool$Task;" ∈ fxTW := fxTW_in 404 (by decide +kernel) rfl
theorem g_Task_27 {G : fxG} {d nL : Nat} {cc : ByteArray} {nm : String} {ret : Option FieldType} {hh : List (Nat × Nat × Nat × Nat)} {x : fxX} {Q : State → Prop} {w : fxW} {pc : Nat} {ls : List (Nat × Value)} {st : List Value} (C : fxC G d cc nL "ForkPool$Task" nm ret hh x) {a n : Nat} {v : Value} (hd : decode cc pc = .ok (.getfield 27, 3)) (ha : fxk w a = some (3, n)) (hv : fxf w 197 a = v) (k : fxR G nL x Q w (pc + 3) ls (v :: st)) : fxR G nL x Q w pc ls (.ref a :: st) := r_get (Cn := RTask) (T := FTask) (N := 9) (ci := 3) (k0 := 5) C hd rfl (by decide) inTask (by decide) lk_Task_27 (Or.inl rfl) ha hv k
theorem lk_Task_34 : Cond.fieldLink "ForkPool$Task" 34 "ForkPool$Task" "base" "J" ∈ fxTW := fxTW_in 413 (by decide +kernel) rfl
theorem g_Task_34 {G : fxG} {d nL : Nat} {cc : ByteArray} {nm : String} {ret : Option FieldType} {hh : List (Nat × Nat × Nat × Nat)} {x : fxX} {Q : State → Prop} {w : fxW} {pc : Nat} {ls : List (Nat × Value)} {st : List Value} (C : fxC G d cc nL "ForkPool$Task" nm ret hh x) {a n : Nat} {v : Value} (hd : decode cc pc = .ok (.getfield 34, 3)) (ha : fxk w a = some (3, n)) (hv : fxf w 200 a = v) (k : fxR G nL x Q w (pc + 3) ls (v :: st)) : fxR G nL x Q w pc ls (.ref a :: st) := r_get (Cn := RTask) (T := FTask) (N := 9) (ci := 3) (k0 := 8) C hd rfl (by decide) inTask (by decide) lk_Task_34 (Or.inl rfl) ha hv k
theorem lk_Task_38 : Cond.fieldLinkNest "ForkPool$Task" 38 "ForkPool$Job" "row" "LForkPool$Row;" "ForkPool" ∈ fxTW := fxTW_in 351 (by decide +kernel) rfl
theorem g_Task_38 {G : fxG} {d nL : Nat} {cc : ByteArray} {nm : String} {ret : Option FieldType} {hh : List (Nat × Nat × Nat × Nat)} {x : fxX} {Q : State → Prop} {w : fxW} {pc : Nat} {ls : List (Nat × Value)} {st : List Value} (C : fxC G d cc nL "ForkPool$Task" nm ret hh x) {a n : Nat} {v : Value} (hd : decode cc pc = .ok (.getfield 38, 3)) (ha : fxk w a = some (2, n)) (hv : fxf w 130 a = v) (k : fxR G nL x Q w (pc + 3) ls (v :: st)) : fxR G nL x Q w pc ls (.ref a :: st) := r_getN (Cn := RJob) (T := FJob) (N := 10) (ci := 2) (k0 := 2) C hd rfl (by decide) inJob (by decide) lk_Task_38 (Or.inl rfl) ha hv k
theorem lk_Task_44 : Cond.fieldLink "ForkPool$Task" 44 "ForkPool$Task" "result" "J" ∈ fxTW := fxTW_in 410 (by decide +kernel) rfl
theorem g_Task_44 {G : fxG} {d nL : Nat} {cc : ByteArray} {nm : String} {ret : Option FieldType} {hh : List (Nat × Nat × Nat × Nat)} {x : fxX} {Q : State → Prop} {w : fxW} {pc : Nat} {ls : List (Nat × Value)} {st : List Value} (C : fxC G d cc nL "ForkPool$Task" nm ret hh x) {a n : Nat} {v : Value} (hd : decode cc pc = .ok (.getfield 44, 3)) (ha : fxk w a = some (3, n)) (hv : fxf w 199 a = v) (k : fxR G nL x Q w (pc + 3) ls (v :: st)) : fxR G nL x Q w pc ls (.ref a :: st) := r_get (Cn := RTask) (T := FTask) (N := 9) (ci := 3) (k0 := 7) C hd rfl (by decide) inTask (by decide) lk_Task_44 (Or.inl rfl) ha hv k
theorem o_Task_1 {G : fxG} {d nL : Nat} {cc : ByteArray} {nm : String} {ret : Option FieldType} {hh : List (Nat × Nat × Nat × Nat)} {x : fxX} {Q : State → Prop} {w : fxW} {pc : Nat} {ls : List (Nat × Value)} {st : List Value} (C : fxC G d cc nL "ForkPool$Task" nm ret hh x) {b : Nat} (hd : decode cc pc = .ok (.invokespecial 1, 3)) (h1 : 1 ≤ d) (hst : (st.map fun v => v.category).sum ≤ 8) (k : fxR G nL x Q w (pc + 3) ls st) : fxR G nL x Q w pc ls (.ref b :: st) := r_objInit C hd (fxTW_in 389 (by decide +kernel) rfl) (fxTW_in 68 (by decide +kernel) rfl) (fxTW_in 69 (by decide +kernel) rfl) h1 hst k
theorem lm_Task_53 : Cond.methodLink "ForkPool$Task" 53 y_Task_init ∈ fxTW := fxTW_in 551 (by decide +kernel) rfl
theorem c_Task_53 {G : fxG} {d nL : Nat} {cc : ByteArray} {nm : String} {ret : Option FieldType} {hh : List (Nat × Nat × Nat × Nat)} {x : fxX} {Q : State → Prop} {w : fxW} {pc : Nat} {ls : List (Nat × Value)} {st : List Value} (C : fxC G d cc nL "ForkPool$Task" nm ret hh x) {b d' : Nat} {a0 a1 a2 a3 : Value} {P : Outcome → fxW → Prop} (hd : decode cc pc = .ok (.invokespecial 53, 3)) (hM : fxM G d' y_Task_init (.ref b :: [a0, a1, a2, a3]) w P) (hdd : d' < d) (hst : (st.map fun v => v.category).sum ≤ 8) (k1 : ∀ v w', P (.returned v) w' → fxR G nL x Q w' (pc + 3) ls (v.toList ++ st)) (k2 : ∀ a w', P (.threw a) w' → fxRt G nL x Q w' pc ls st a) : fxR G nL x Q w pc ls (a3 :: a2 :: a1 :: a0 :: .ref b :: st) := r_callI (As := [a0, a1, a2, a3]) C hd lm_Task_53 rfl (fxTW_in 387 (by decide +kernel) rfl) w_Task_init ini_ForkPool_Task (by decide) np_Task_init (by decide) hM hdd hst rfl k1 k2
theorem lm_Task_30 : Cond.methodLink "ForkPool$Task" 30 y_Task_hasForked ∈ fxTW := fxTW_in 548 (by decide +kernel) rfl
theorem c_Task_30 {G : fxG} {d nL : Nat} {cc : ByteArray} {nm : String} {ret : Option FieldType} {hh : List (Nat × Nat × Nat × Nat)} {x : fxX} {Q : State → Prop} {w : fxW} {pc : Nat} {ls : List (Nat × Value)} {st : List Value} (C : fxC G d cc nL "ForkPool$Task" nm ret hh x) {b n0 d' : Nat} {P : Outcome → fxW → Prop} (hd : decode cc pc = .ok (.invokevirtual 30, 3)) (hb9 : fxk w b = some (3, n0)) (hM : fxM G d' y_Task_hasForked (.ref b :: []) w P) (hdd : d' < d) (hst : (st.map fun v => v.category).sum ≤ 8) (k1 : ∀ v w', P (.returned v) w' → fxR G nL x Q w' (pc + 3) ls (v.toList ++ st)) (k2 : ∀ a w', P (.threw a) w' → fxRt G nL x Q w' pc ls st a) : fxR G nL x Q w pc ls (.ref b :: st) := r_callV (As := []) (Cn := "ForkPool$Task") (ci := 3) C hd lm_Task_30 (fxTW_in 541 (by decide +kernel) rfl) (fxTW_in 542 (by decide +kernel) rfl) w_Task_hasForked ini_ForkPool_Task (by decide) np_Task_hasForked (by decide) (by decide) rfl hb9 hM hdd hst rfl k1 k2
theorem lm_Task_47 : Cond.methodLink "ForkPool$Task" 47 y_Row_kept ∈ fxTW := fxTW_in 549 (by decide +kernel) rfl
theorem c_Task_47 {G : fxG} {d nL : Nat} {cc : ByteArray} {nm : String} {ret : Option FieldType} {hh : List (Nat × Nat × Nat × Nat)} {x : fxX} {Q : State → Prop} {w : fxW} {pc : Nat} {ls : List (Nat × Value)} {st : List Value} (C : fxC G d cc nL "ForkPool$Task" nm ret hh x) {b n0 d' : Nat} {a0 : Value} {P : Outcome → fxW → Prop} (hd : decode cc pc = .ok (.invokevirtual 47, 3)) (hb9 : fxk w b = some (1, n0)) (hM : fxM G d' y_Row_kept (.ref b :: [a0]) w P) (hdd : d' < d) (hst : (st.map fun v => v.category).sum ≤ 8) (k1 : ∀ v w', P (.returned v) w' → fxR G nL x Q w' (pc + 3) ls (v.toList ++ st)) (k2 : ∀ a w', P (.threw a) w' → fxRt G nL x Q w' pc ls st a) : fxR G nL x Q w pc ls (a0 :: .ref b :: st) := r_callV (As := [a0]) (Cn := "ForkPool$Row") (ci := 1) C hd lm_Task_47 (fxTW_in 313 (by decide +kernel) rfl) (fxTW_in 314 (by decide +kernel) rfl) w_Row_kept ini_ForkPool_Row (by decide) np_Row_kept (by decide) (by decide) rfl hb9 hM hdd hst rfl k1 k2
theorem lc_Task_8 : Cond.classLink "ForkPool$Task" 8 "ForkPool$Task" ∈ fxTW := fxTW_in 550 (by decide +kernel) rfl
theorem n_Task_8 {G : fxG} {d nL : Nat} {cc : ByteArray} {nm : String} {ret : Option FieldType} {hh : List (Nat × Nat × Nat × Nat)} {x : fxX} {Q : State → Prop} {w : fxW} {pc : Nat} {ls : List (Nat × Value)} {st : List Value} (C : fxC G d cc nL "ForkPool$Task" nm ret hh x) (hd : decode cc pc = .ok (.new 8, 3)) (h9 : fxt w + 1 ≤ fxmt G) (h8 : fxu w + 9 ≤ fxmu G) (k : fxR G nL x Q (fx_new w 3 9 (fun k => defaultValue (tTask k))) (pc + 3) ls (.ref (fxt w) :: st)) : fxR G nL x Q w pc ls st := r_new (Cn := RTask) (T := FTask) (N := 9) (ci := 3) C hd rfl (by decide) inTask tTask tyTask lc_Task_8 (fxTW_in 385 (by decide +kernel) rfl) ini_ForkPool_Task (fun _ _ => rfl) h9 h8 k
theorem p_Task_7F {G : fxG} {d nL : Nat} {cc : ByteArray} {nm : String} {ret : Option FieldType} {hh : List (Nat × Nat × Nat × Nat)} {x : fxX} {Q : State → Prop} {w : fxW} {pc : Nat} {ls : List (Nat × Value)} {st : List Value} (C : fxC G d cc nL "ForkPool$Task" "<init>" ret hh x) {a n : Nat} {v : Value} (hd : decode cc pc = .ok (.putfield 7, 3)) (hn : narrow (tTask 0) v = v) (hfit : fits (tTask 0) v = true) (ha : fxk w a = some (3, n)) (k : fxR G nL x Q (fx_put w 192 a v) (pc + 3) ls st) : fxR G nL x Q w pc ls (v :: .ref a :: st) := r_putF (Cn := RTask) (T := FTask) (N := 9) (ci := 3) (k0 := 0) C hd rfl (by decide) inTask tTask tyTask nmTask (by decide) lk_Task_7 (Or.inl rfl) rfl rfl (tyTask 0 (by decide)) hn hfit ha k
theorem lk_Task_13 : Cond.fieldLink "ForkPool$Task" 13 "ForkPool$Task" "parent" "LForkPool$Task;" ∈ fxTW := fxTW_in 393 (by decide +kernel) rfl
theorem p_Task_13F {G : fxG} {d nL : Nat} {cc : ByteArray} {nm : String} {ret : Option FieldType} {hh : List (Nat × Nat × Nat × Nat)} {x : fxX} {Q : State → Prop} {w : fxW} {pc : Nat} {ls : List (Nat × Value)} {st : List Value} (C : fxC G d cc nL "ForkPool$Task" "<init>" ret hh x) {a n : Nat} {v : Value} (hd : decode cc pc = .ok (.putfield 13, 3)) (hn : narrow (tTask 1) v = v) (hfit : fits (tTask 1) v = true) (ha : fxk w a = some (3, n)) (k : fxR G nL x Q (fx_put w 193 a v) (pc + 3) ls st) : fxR G nL x Q w pc ls (v :: .ref a :: st) := r_putF (Cn := RTask) (T := FTask) (N := 9) (ci := 3) (k0 := 1) C hd rfl (by decide) inTask tTask tyTask nmTask (by decide) lk_Task_13 (Or.inl rfl) rfl rfl (tyTask 1 (by decide)) hn hfit ha k
theorem p_Task_17F {G : fxG} {d nL : Nat} {cc : ByteArray} {nm : String} {ret : Option FieldType} {hh : List (Nat × Nat × Nat × Nat)} {x : fxX} {Q : State → Prop} {w : fxW} {pc : Nat} {ls : List (Nat × Value)} {st : List Value} (C : fxC G d cc nL "ForkPool$Task" "<init>" ret hh x) {a n : Nat} {v : Value} (hd : decode cc pc = .ok (.putfield 17, 3)) (hn : narrow (tTask 2) v = v) (hfit : fits (tTask 2) v = true) (ha : fxk w a = some (3, n)) (k : fxR G nL x Q (fx_put w 194 a v) (pc + 3) ls st) : fxR G nL x Q w pc ls (v :: .ref a :: st) := r_putF (Cn := RTask) (T := FTask) (N := 9) (ci := 3) (k0 := 2) C hd rfl (by decide) inTask tTask tyTask nmTask (by decide) lk_Task_17 (Or.inl rfl) rfl rfl (tyTask 2 (by decide)) hn hfit ha k
theorem p_Task_21F {G : fxG} {d nL : Nat} {cc : ByteArray} {nm : String} {ret : Option FieldType} {hh : List (Nat × Nat × Nat × Nat)} {x : fxX} {Q : State → Prop} {w : fxW} {pc : Nat} {ls : List (Nat × Value)} {st : List Value} (C : fxC G d cc nL "ForkPool$Task" "<init>" ret hh x) {a n : Nat} {v : Value} (hd : decode cc pc = .ok (.putfield 21, 3)) (hn : narrow (tTask 3) v = v) (hfit : fits (tTask 3) v = true) (ha : fxk w a = some (3, n)) (k : fxR G nL x Q (fx_put w 195 a v) (pc + 3) ls st) : fxR G nL x Q w pc ls (v :: .ref a :: st) := r_putF (Cn := RTask) (T := FTask) (N := 9) (ci := 3) (k0 := 3) C hd rfl (by decide) inTask tTask tyTask nmTask (by decide) lk_Task_21 (Or.inl rfl) rfl rfl (tyTask 3 (by decide)) hn hfit ha k
theorem p_Task_24 {G : fxG} {d nL : Nat} {cc : ByteArray} {nm : String} {ret : Option FieldType} {hh : List (Nat × Nat × Nat × Nat)} {x : fxX} {Q : State → Prop} {w : fxW} {pc : Nat} {ls : List (Nat × Value)} {st : List Value} (C : fxC G d cc nL "ForkPool$Task" nm ret hh x) {a n : Nat} {v : Value} (hd : decode cc pc = .ok (.putfield 24, 3)) (hn : narrow (tTask 4) v = v) (hfit : fits (tTask 4) v = true) (ha : fxk w a = some (3, n)) (k : fxR G nL x Q (fx_put w 196 a v) (pc + 3) ls st) : fxR G nL x Q w pc ls (v :: .ref a :: st) := r_put (Cn := RTask) (T := FTask) (N := 9) (ci := 3) (k0 := 4) C hd rfl (by decide) inTask tTask tyTask nmTask (by decide) lk_Task_24 (Or.inl rfl) rfl (tyTask 4 (by decide)) hn hfit ha k
theorem p_Task_27 {G : fxG} {d nL : Nat} {cc : ByteArray} {nm : String} {ret : Option FieldType} {hh : List (Nat × Nat × Nat × Nat)} {x : fxX} {Q : State → Prop} {w : fxW} {pc : Nat} {ls : List (Nat × Value)} {st : List Value} (C : fxC G d cc nL "ForkPool$Task" nm ret hh x) {a n : Nat} {v : Value} (hd : decode cc pc = .ok (.putfield 27, 3)) (hn : narrow (tTask 5) v = v) (hfit : fits (tTask 5) v = true) (ha : fxk w a = some (3, n)) (k : fxR G nL x Q (fx_put w 197 a v) (pc + 3) ls st) : fxR G nL x Q w pc ls (v :: .ref a :: st) := r_put (Cn := RTask) (T := FTask) (N := 9) (ci := 3) (k0 := 5) C hd rfl (by decide) inTask tTask tyTask nmTask (by decide) lk_Task_27 (Or.inl rfl) rfl (tyTask 5 (by decide)) hn hfit ha k
theorem p_Task_34 {G : fxG} {d nL : Nat} {cc : ByteArray} {nm : String} {ret : Option FieldType} {hh : List (Nat × Nat × Nat × Nat)} {x : fxX} {Q : State → Prop} {w : fxW} {pc : Nat} {ls : List (Nat × Value)} {st : List Value} (C : fxC G d cc nL "ForkPool$Task" nm ret hh x) {a n : Nat} {v : Value} (hd : decode cc pc = .ok (.putfield 34, 3)) (hn : narrow (tTask 8) v = v) (hfit : fits (tTask 8) v = true) (ha : fxk w a = some (3, n)) (k : fxR G nL x Q (fx_put w 200 a v) (pc + 3) ls st) : fxR G nL x Q w pc ls (v :: .ref a :: st) := r_put (Cn := RTask) (T := FTask) (N := 9) (ci := 3) (k0 := 8) C hd rfl (by decide) inTask tTask tyTask nmTask (by decide) lk_Task_34 (Or.inl rfl) rfl (tyTask 8 (by decide)) hn hfit ha k
theorem lk_Task_56 : Cond.fieldLink "ForkPool$Task" 56 "ForkPool$Task" "openParts" "I" ∈ fxTW := fxTW_in 407 (by decide +kernel) rfl
theorem p_Task_56 {G : fxG} {d nL : Nat} {cc : ByteArray} {nm : String} {ret : Option FieldType} {hh : List (Nat × Nat × Nat × Nat)} {x : fxX} {Q : State → Prop} {w : fxW} {pc : Nat} {ls : List (Nat × Value)} {st : List Value} (C : fxC G d cc nL "ForkPool$Task" nm ret hh x) {a n : Nat} {v : Value} (hd : decode cc pc = .ok (.putfield 56, 3)) (hn : narrow (tTask 6) v = v) (hfit : fits (tTask 6) v = true) (ha : fxk w a = some (3, n)) (k : fxR G nL x Q (fx_put w 198 a v) (pc + 3) ls st) : fxR G nL x Q w pc ls (v :: .ref a :: st) := r_put (Cn := RTask) (T := FTask) (N := 9) (ci := 3) (k0 := 6) C hd rfl (by decide) inTask tTask tyTask nmTask (by decide) lk_Task_56 (Or.inl rfl) rfl (tyTask 6 (by decide)) hn hfit ha k
theorem lk_Wk_10 : Cond.fieldLink "ForkPool$Worker" 10 "ForkPool$Worker" "queue" "Ljava/util/ArrayList;" ∈ fxTW := fxTW_in 129 (by decide +kernel) rfl
theorem g_Wk_10 {G : fxG} {d nL : Nat} {cc : ByteArray} {nm : String} {ret : Option FieldType} {hh : List (Nat × Nat × Nat × Nat)} {x : fxX} {Q : State → Prop} {w : fxW} {pc : Nat} {ls : List (Nat × Value)} {st : List Value} (C : fxC G d cc nL "ForkPool$Worker" nm ret hh x) {a n : Nat} {v : Value} (hd : decode cc pc = .ok (.getfield 10, 3)) (ha : fxk w a = some (4, n)) (hv : fxf w 256 a = v) (k : fxR G nL x Q w (pc + 3) ls (v :: st)) : fxR G nL x Q w pc ls (.ref a :: st) := r_get (Cn := RWk) (T := FWk) (N := 5) (ci := 4) (k0 := 0) C hd rfl (by decide) inWk (by decide) lk_Wk_10 (Or.inl rfl) ha hv k
theorem lk_Wk_37 : Cond.fieldLinkNest "ForkPool$Worker" 37 "ForkPool$Task" "job" "LForkPool$Job;" "ForkPool" ∈ fxTW := fxTW_in 391 (by decide +kernel) rfl
theorem g_Wk_37 {G : fxG} {d nL : Nat} {cc : ByteArray} {nm : String} {ret : Option FieldType} {hh : List (Nat × Nat × Nat × Nat)} {x : fxX} {Q : State → Prop} {w : fxW} {pc : Nat} {ls : List (Nat × Value)} {st : List Value} (C : fxC G d cc nL "ForkPool$Worker" nm ret hh x) {a n : Nat} {v : Value} (hd : decode cc pc = .ok (.getfield 37, 3)) (ha : fxk w a = some (3, n)) (hv : fxf w 192 a = v) (k : fxR G nL x Q w (pc + 3) ls (v :: st)) : fxR G nL x Q w pc ls (.ref a :: st) := r_getN (Cn := RTask) (T := FTask) (N := 9) (ci := 3) (k0 := 0) C hd rfl (by decide) inTask (by decide) lk_Wk_37 (Or.inl rfl) ha hv k
theorem o_Wk_1 {G : fxG} {d nL : Nat} {cc : ByteArray} {nm : String} {ret : Option FieldType} {hh : List (Nat × Nat × Nat × Nat)} {x : fxX} {Q : State → Prop} {w : fxW} {pc : Nat} {ls : List (Nat × Value)} {st : List Value} (C : fxC G d cc nL "ForkPool$Worker" nm ret hh x) {b : Nat} (hd : decode cc pc = .ok (.invokespecial 1, 3)) (h1 : 1 ≤ d) (hst : (st.map fun v => v.category).sum ≤ 8) (k : fxR G nL x Q w (pc + 3) ls st) : fxR G nL x Q w pc ls (.ref b :: st) := r_objInit C hd (fxTW_in 102 (by decide +kernel) rfl) (fxTW_in 68 (by decide +kernel) rfl) (fxTW_in 69 (by decide +kernel) rfl) h1 hst k
theorem lm_Wk_9 : Cond.methodLink "ForkPool$Worker" 9 y_AL_init ∈ fxTW := fxTW_in 105 (by decide +kernel) rfl
theorem c_Wk_9 {G : fxG} {d nL : Nat} {cc : ByteArray} {nm : String} {ret : Option FieldType} {hh : List (Nat × Nat × Nat × Nat)} {x : fxX} {Q : State → Prop} {w : fxW} {pc : Nat} {ls : List (Nat × Value)} {st : List Value} (C : fxC G d cc nL "ForkPool$Worker" nm ret hh x) {b d' : Nat} {P : Outcome → fxW → Prop} (hd : decode cc pc = .ok (.invokespecial 9, 3)) (hM : fxM G d' y_AL_init (.ref b :: []) w P) (hdd : d' < d) (hst : (st.map fun v => v.category).sum ≤ 8) (k1 : ∀ v w', P (.returned v) w' → fxR G nL x Q w' (pc + 3) ls (v.toList ++ st)) (k2 : ∀ a w', P (.threw a) w' → fxRt G nL x Q w' pc ls st a) : fxR G nL x Q w pc ls (.ref b :: st) := r_callI (As := []) C hd lm_Wk_9 rfl (fxTW_in 106 (by decide +kernel) rfl) w_AL_init ini_java_util_ArrayList (by decide) np_AL_init (by decide) hM hdd hst rfl k1 k2
theorem lm_Wk_20 : Cond.methodLink "ForkPool$Worker" 20 y_AL_size ∈ fxTW := fxTW_in 508 (by decide +kernel) rfl
theorem c_Wk_20 {G : fxG} {d nL : Nat} {cc : ByteArray} {nm : String} {ret : Option FieldType} {hh : List (Nat × Nat × Nat × Nat)} {x : fxX} {Q : State → Prop} {w : fxW} {pc : Nat} {ls : List (Nat × Value)} {st : List Value} (C : fxC G d cc nL "ForkPool$Worker" nm ret hh x) {b n0 d' : Nat} {P : Outcome → fxW → Prop} (hd : decode cc pc = .ok (.invokevirtual 20, 3)) (hb9 : fxk w b = some (5, n0)) (hM : fxM G d' y_AL_size (.ref b :: []) w P) (hdd : d' < d) (hst : (st.map fun v => v.category).sum ≤ 8) (k1 : ∀ v w', P (.returned v) w' → fxR G nL x Q w' (pc + 3) ls (v.toList ++ st)) (k2 : ∀ a w', P (.threw a) w' → fxRt G nL x Q w' pc ls st a) : fxR G nL x Q w pc ls (.ref b :: st) := r_callV (As := []) (Cn := "java/util/ArrayList") (ci := 5) C hd lm_Wk_20 (fxTW_in 509 (by decide +kernel) rfl) (fxTW_in 510 (by decide +kernel) rfl) w_AL_size ini_java_util_ArrayList (by decide) np_AL_size (by decide) (by decide) rfl hb9 hM hdd hst rfl k1 k2
theorem lm_Wk_24 : Cond.methodLink "ForkPool$Worker" 24 y_AL_add1 ∈ fxTW := fxTW_in 437 (by decide +kernel) rfl
theorem c_Wk_24 {G : fxG} {d nL : Nat} {cc : ByteArray} {nm : String} {ret : Option FieldType} {hh : List (Nat × Nat × Nat × Nat)} {x : fxX} {Q : State → Prop} {w : fxW} {pc : Nat} {ls : List (Nat × Value)} {st : List Value} (C : fxC G d cc nL "ForkPool$Worker" nm ret hh x) {b n0 d' : Nat} {a0 : Value} {P : Outcome → fxW → Prop} (hd : decode cc pc = .ok (.invokevirtual 24, 3)) (hb9 : fxk w b = some (5, n0)) (hM : fxM G d' y_AL_add1 (.ref b :: [a0]) w P) (hdd : d' < d) (hst : (st.map fun v => v.category).sum ≤ 8) (k1 : ∀ v w', P (.returned v) w' → fxR G nL x Q w' (pc + 3) ls (v.toList ++ st)) (k2 : ∀ a w', P (.threw a) w' → fxRt G nL x Q w' pc ls st a) : fxR G nL x Q w pc ls (a0 :: .ref b :: st) := r_callV (As := [a0]) (Cn := "java/util/ArrayList") (ci := 5) C hd lm_Wk_24 (fxTW_in 438 (by decide +kernel) rfl) (fxTW_in 439 (by decide +kernel) rfl) w_AL_add1 ini_java_util_ArrayList (by decide) np_AL_add1 (by decide) (by decide) rfl hb9 hM hdd hst rfl k1 k2
theorem lm_Wk_28 : Cond.methodLink "ForkPool$Worker" 28 y_AL_remove ∈ fxTW := fxTW_in 516 (by decide +kernel) rfl
theorem c_Wk_28 {G : fxG} {d nL : Nat} {cc : ByteArray} {nm : String} {ret : Option FieldType} {hh : List (Nat × Nat × Nat × Nat)} {x : fxX} {Q : State → Prop} {w : fxW} {pc : Nat} {ls : List (Nat × Value)} {st : List Value} (C : fxC G d cc nL "ForkPool$Worker" nm ret hh x) {b n0 d' : Nat} {a0 : Value} {P : Outcome → fxW → Prop} (hd : decode cc pc = .ok (.invokevirtual 28, 3)) (hb9 : fxk w b = some (5, n0)) (hM : fxM G d' y_AL_remove (.ref b :: [a0]) w P) (hdd : d' < d) (hst : (st.map fun v => v.category).sum ≤ 8) (k1 : ∀ v w', P (.returned v) w' → fxR G nL x Q w' (pc + 3) ls (v.toList ++ st)) (k2 : ∀ a w', P (.threw a) w' → fxRt G nL x Q w' pc ls st a) : fxR G nL x Q w pc ls (a0 :: .ref b :: st) := r_callV (As := [a0]) (Cn := "java/util/ArrayList") (ci := 5) C hd lm_Wk_28 (fxTW_in 517 (by decide +kernel) rfl) (fxTW_in 518 (by decide +kernel) rfl) w_AL_remove ini_java_util_ArrayList (by decide) np_AL_remove (by decide) (by decide) rfl hb9 hM hdd hst rfl k1 k2
theorem lm_Wk_34 : Cond.methodLink "ForkPool$Worker" 34 y_AL_get ∈ fxTW := fxTW_in 612 (by decide +kernel) rfl
theorem c_Wk_34 {G : fxG} {d nL : Nat} {cc : ByteArray} {nm : String} {ret : Option FieldType} {hh : List (Nat × Nat × Nat × Nat)} {x : fxX} {Q : State → Prop} {w : fxW} {pc : Nat} {ls : List (Nat × Value)} {st : List Value} (C : fxC G d cc nL "ForkPool$Worker" nm ret hh x) {b n0 d' : Nat} {a0 : Value} {P : Outcome → fxW → Prop} (hd : decode cc pc = .ok (.invokevirtual 34, 3)) (hb9 : fxk w b = some (5, n0)) (hM : fxM G d' y_AL_get (.ref b :: [a0]) w P) (hdd : d' < d) (hst : (st.map fun v => v.category).sum ≤ 8) (k1 : ∀ v w', P (.returned v) w' → fxR G nL x Q w' (pc + 3) ls (v.toList ++ st)) (k2 : ∀ a w', P (.threw a) w' → fxRt G nL x Q w' pc ls st a) : fxR G nL x Q w pc ls (a0 :: .ref b :: st) := r_callV (As := [a0]) (Cn := "java/util/ArrayList") (ci := 5) C hd lm_Wk_34 (fxTW_in 613 (by decide +kernel) rfl) (fxTW_in 614 (by decide +kernel) rfl) w_AL_get ini_java_util_ArrayList (by decide) np_AL_get (by decide) (by decide) rfl hb9 hM hdd hst rfl k1 k2
theorem lc_Wk_7 : Cond.classLink "ForkPool$Worker" 7 "java/util/ArrayList" ∈ fxTW := fxTW_in 103 (by decide +kernel) rfl
theorem n_Wk_7 {G : fxG} {d nL : Nat} {cc : ByteArray} {nm : String} {ret : Option FieldType} {hh : List (Nat × Nat × Nat × Nat)} {x : fxX} {Q : State → Prop} {w : fxW} {pc : Nat} {ls : List (Nat × Value)} {st : List Value} (C : fxC G d cc nL "ForkPool$Worker" nm ret hh x) (hd : decode cc pc = .ok (.new 7, 3)) (h9 : fxt w + 1 ≤ fxmt G) (h8 : fxu w + 3 ≤ fxmu G) (k : fxR G nL x Q (fx_new w 5 3 (fun k => defaultValue (tAL k))) (pc + 3) ls (.ref (fxt w) :: st)) : fxR G nL x Q w pc ls st := r_new (Cn := RAL) (T := FAL) (N := 3) (ci := 5) C hd rfl (by decide) inAL tAL tyAL lc_Wk_7 (fxTW_in 104 (by decide +kernel) rfl) ini_java_util_ArrayList (fun _ _ => rfl) h9 h8 k
theorem p_Wk_10F {G : fxG} {d nL : Nat} {cc : ByteArray} {nm : String} {ret : Option FieldType} {hh : List (Nat × Nat × Nat × Nat)} {x : fxX} {Q : State → Prop} {w : fxW} {pc : Nat} {ls : List (Nat × Value)} {st : List Value} (C : fxC G d cc nL "ForkPool$Worker" "<init>" ret hh x) {a n : Nat} {v : Value} (hd : decode cc pc = .ok (.putfield 10, 3)) (hn : narrow (tWk 0) v = v) (hfit : fits (tWk 0) v = true) (ha : fxk w a = some (4, n)) (k : fxR G nL x Q (fx_put w 256 a v) (pc + 3) ls st) : fxR G nL x Q w pc ls (v :: .ref a :: st) := r_putF (Cn := RWk) (T := FWk) (N := 5) (ci := 4) (k0 := 0) C hd rfl (by decide) inWk tWk tyWk nmWk (by decide) lk_Wk_10 (Or.inl rfl) rfl rfl (tyWk 0 (by decide)) hn hfit ha k
theorem lk_Wk_16 : Cond.fieldLink "ForkPool$Worker" 16 "ForkPool$Worker" "victim" "I" ∈ fxTW := fxTW_in 133 (by decide +kernel) rfl
theorem p_Wk_16 {G : fxG} {d nL : Nat} {cc : ByteArray} {nm : String} {ret : Option FieldType} {hh : List (Nat × Nat × Nat × Nat)} {x : fxX} {Q : State → Prop} {w : fxW} {pc : Nat} {ls : List (Nat × Value)} {st : List Value} (C : fxC G d cc nL "ForkPool$Worker" nm ret hh x) {a n : Nat} {v : Value} (hd : decode cc pc = .ok (.putfield 16, 3)) (hn : narrow (tWk 4) v = v) (hfit : fits (tWk 4) v = true) (ha : fxk w a = some (4, n)) (k : fxR G nL x Q (fx_put w 260 a v) (pc + 3) ls st) : fxR G nL x Q w pc ls (v :: .ref a :: st) := r_put (Cn := RWk) (T := FWk) (N := 5) (ci := 4) (k0 := 4) C hd rfl (by decide) inWk tWk tyWk nmWk (by decide) lk_Wk_16 (Or.inl rfl) rfl (tyWk 4 (by decide)) hn hfit ha k
end
