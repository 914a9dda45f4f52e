section
-- ===== PART A: goes FIRST, ahead of the names: the tables' words, and 'selects' of the private methods out of them =====
/-- a private method of a class that the tables say can be made, by its rows of tables_1 -/
def lw_okq (q : MethodName × Nat) : Prop := (q.1.cls ≠ "java/lang/invoke/MethodHandle" ∧ q.1.cls ≠ "java/lang/invoke/VarHandle") ∧ Cond.instantiable q.1.cls q.2 ∈ tables_1 ∧ Cond.privateMethod q.1 ∈ tables_1 ∧ Cond.instanceMethod q.1 ∈ tables_1
theorem lw_p0 : lw_okq (⟨"java/lang/Throwable", "fillInStackTrace", "(I)Ljava/lang/Throwable;"⟩, 6) := ⟨⟨by decide +kernel, by decide +kernel⟩, List.mem_of_getElem? (i := 188) (by decide +kernel), List.mem_of_getElem? (i := 186) (by decide +kernel), List.mem_of_getElem? (i := 187) (by decide +kernel)⟩
theorem lw_p1 : lw_okq (⟨"ForkPool", "refuseIfBusy", "(LForkPool$Row;)V"⟩, 7) := ⟨⟨by decide +kernel, by decide +kernel⟩, List.mem_of_getElem? (i := 25) (by decide +kernel), List.mem_of_getElem? (i := 218) (by decide +kernel), List.mem_of_getElem? (i := 219) (by decide +kernel)⟩
theorem lw_p2 : lw_okq (⟨"ForkPool", "rowWith", "(II)LForkPool$Row;"⟩, 7) := ⟨⟨by decide +kernel, by decide +kernel⟩, List.mem_of_getElem? (i := 25) (by decide +kernel), List.mem_of_getElem? (i := 250) (by decide +kernel), List.mem_of_getElem? (i := 251) (by decide +kernel)⟩
theorem lw_p3 : lw_okq (⟨"ForkPool", "madeRow", "(I)LForkPool$Row;"⟩, 7) := ⟨⟨by decide +kernel, by decide +kernel⟩, List.mem_of_getElem? (i := 25) (by decide +kernel), List.mem_of_getElem? (i := 254) (by decide +kernel), List.mem_of_getElem? (i := 255) (by decide +kernel)⟩
theorem lw_p4 : lw_okq (⟨"java/util/ArrayList", "add", "(Ljava/lang/Object;[Ljava/lang/Object;I)V"⟩, 3) := ⟨⟨by decide +kernel, by decide +kernel⟩, List.mem_of_getElem? (i := 66) (by decide +kernel), List.mem_of_getElem? (i := 404) (by decide +kernel), List.mem_of_getElem? (i := 405) (by decide +kernel)⟩
theorem lw_p5 : lw_okq (⟨"java/util/ArrayList", "grow", "()[Ljava/lang/Object;"⟩, 3) := ⟨⟨by decide +kernel, by decide +kernel⟩, List.mem_of_getElem? (i := 66) (by decide +kernel), List.mem_of_getElem? (i := 408) (by decide +kernel), List.mem_of_getElem? (i := 409) (by decide +kernel)⟩
theorem lw_p6 : lw_okq (⟨"java/util/ArrayList", "grow", "(I)[Ljava/lang/Object;"⟩, 3) := ⟨⟨by decide +kernel, by decide +kernel⟩, List.mem_of_getElem? (i := 66) (by decide +kernel), List.mem_of_getElem? (i := 412) (by decide +kernel), List.mem_of_getElem? (i := 413) (by decide +kernel)⟩
theorem lw_p7 : lw_okq (⟨"ForkPool", "makeStep", "()Z"⟩, 7) := ⟨⟨by decide +kernel, by decide +kernel⟩, List.mem_of_getElem? (i := 25) (by decide +kernel), List.mem_of_getElem? (i := 463) (by decide +kernel), List.mem_of_getElem? (i := 464) (by decide +kernel)⟩
theorem lw_p8 : lw_okq (⟨"java/util/ArrayList", "fastRemove", "([Ljava/lang/Object;I)V"⟩, 3) := ⟨⟨by decide +kernel, by decide +kernel⟩, List.mem_of_getElem? (i := 66) (by decide +kernel), List.mem_of_getElem? (i := 489) (by decide +kernel), List.mem_of_getElem? (i := 490) (by decide +kernel)⟩
theorem lw_p9 : lw_okq (⟨"ForkPool", "perform", "(LForkPool$Task;LForkPool$Worker;)V"⟩, 7) := ⟨⟨by decide +kernel, by decide +kernel⟩, List.mem_of_getElem? (i := 25) (by decide +kernel), List.mem_of_getElem? (i := 495) (by decide +kernel), List.mem_of_getElem? (i := 496) (by decide +kernel)⟩
theorem lw_p10 : lw_okq (⟨"ForkPool", "mustFork", "(LForkPool$Task;)Z"⟩, 7) := ⟨⟨by decide +kernel, by decide +kernel⟩, List.mem_of_getElem? (i := 25) (by decide +kernel), List.mem_of_getElem? (i := 499) (by decide +kernel), List.mem_of_getElem? (i := 500) (by decide +kernel)⟩
theorem lw_p11 : lw_okq (⟨"ForkPool", "endTask", "(LForkPool$Task;LForkPool$Worker;)V"⟩, 7) := ⟨⟨by decide +kernel, by decide +kernel⟩, List.mem_of_getElem? (i := 25) (by decide +kernel), List.mem_of_getElem? (i := 552) (by decide +kernel), List.mem_of_getElem? (i := 553) (by decide +kernel)⟩
theorem lw_p12 : lw_okq (⟨"ForkPool", "endRound", "(LForkPool$Task;LForkPool$Worker;)V"⟩, 7) := ⟨⟨by decide +kernel, by decide +kernel⟩, List.mem_of_getElem? (i := 25) (by decide +kernel), List.mem_of_getElem? (i := 563) (by decide +kernel), List.mem_of_getElem? (i := 564) (by decide +kernel)⟩
theorem lw_p13 : lw_okq (⟨"ForkPool", "fail", "(LForkPool$Job;I)V"⟩, 7) := ⟨⟨by decide +kernel, by decide +kernel⟩, List.mem_of_getElem? (i := 25) (by decide +kernel), List.mem_of_getElem? (i := 567) (by decide +kernel), List.mem_of_getElem? (i := 568) (by decide +kernel)⟩
theorem lw_p14 : lw_okq (⟨"ForkPool", "findVictim", "(LForkPool$Worker;)LForkPool$Worker;"⟩, 7) := ⟨⟨by decide +kernel, by decide +kernel⟩, List.mem_of_getElem? (i := 25) (by decide +kernel), List.mem_of_getElem? (i := 583) (by decide +kernel), List.mem_of_getElem? (i := 584) (by decide +kernel)⟩
theorem lw_p15 : lw_okq (⟨"ForkPool", "begunJob", "(I)LForkPool$Job;"⟩, 7) := ⟨⟨by decide +kernel, by decide +kernel⟩, List.mem_of_getElem? (i := 25) (by decide +kernel), List.mem_of_getElem? (i := 599) (by decide +kernel), List.mem_of_getElem? (i := 600) (by decide +kernel)⟩
def lw_privs_1 : List (MethodName × Nat) := [(⟨"java/lang/Throwable", "fillInStackTrace", "(I)Ljava/lang/Throwable;"⟩, 6), (⟨"ForkPool", "refuseIfBusy", "(LForkPool$Row;)V"⟩, 7), (⟨"ForkPool", "rowWith", "(II)LForkPool$Row;"⟩, 7), (⟨"ForkPool", "madeRow", "(I)LForkPool$Row;"⟩, 7), (⟨"java/util/ArrayList", "add", "(Ljava/lang/Object;[Ljava/lang/Object;I)V"⟩, 3), (⟨"java/util/ArrayList", "grow", "()[Ljava/lang/Object;"⟩, 3), (⟨"java/util/ArrayList", "grow", "(I)[Ljava/lang/Object;"⟩, 3), (⟨"ForkPool", "makeStep", "()Z"⟩, 7), (⟨"java/util/ArrayList", "fastRemove", "([Ljava/lang/Object;I)V"⟩, 3), (⟨"ForkPool", "perform", "(LForkPool$Task;LForkPool$Worker;)V"⟩, 7), (⟨"ForkPool", "mustFork", "(LForkPool$Task;)Z"⟩, 7), (⟨"ForkPool", "endTask", "(LForkPool$Task;LForkPool$Worker;)V"⟩, 7), (⟨"ForkPool", "endRound", "(LForkPool$Task;LForkPool$Worker;)V"⟩, 7), (⟨"ForkPool", "fail", "(LForkPool$Job;I)V"⟩, 7), (⟨"ForkPool", "findVictim", "(LForkPool$Worker;)LForkPool$Worker;"⟩, 7), (⟨"ForkPool", "begunJob", "(I)LForkPool$Job;"⟩, 7)]
theorem lw_r1 : ∀ q ∈ lw_privs_1, lw_okq q := List.forall_mem_cons.mpr ⟨lw_p0, List.forall_mem_cons.mpr ⟨lw_p1, List.forall_mem_cons.mpr ⟨lw_p2, List.forall_mem_cons.mpr ⟨lw_p3, List.forall_mem_cons.mpr ⟨lw_p4, List.forall_mem_cons.mpr ⟨lw_p5, List.forall_mem_cons.mpr ⟨lw_p6, List.forall_mem_cons.mpr ⟨lw_p7, List.forall_mem_cons.mpr ⟨lw_p8, List.forall_mem_cons.mpr ⟨lw_p9, List.forall_mem_cons.mpr ⟨lw_p10, List.forall_mem_cons.mpr ⟨lw_p11, List.forall_mem_cons.mpr ⟨lw_p12, List.forall_mem_cons.mpr ⟨lw_p13, List.forall_mem_cons.mpr ⟨lw_p14, List.forall_mem_cons.mpr ⟨lw_p15, fun _ h => absurd h List.not_mem_nil⟩⟩⟩⟩⟩⟩⟩⟩⟩⟩⟩⟩⟩⟩⟩⟩
theorem lw_p16 : lw_okq (⟨"ForkPool", "queuedTasks", "(LForkPool$Job;)I"⟩, 7) := ⟨⟨by decide +kernel, by decide +kernel⟩, List.mem_of_getElem? (i := 25) (by decide +kernel), List.mem_of_getElem? (i := 654) (by decide +kernel), List.mem_of_getElem? (i := 655) (by decide +kernel)⟩
theorem lw_p17 : lw_okq (⟨"ForkPool", "workerAt", "(I)LForkPool$Worker;"⟩, 7) := ⟨⟨by decide +kernel, by decide +kernel⟩, List.mem_of_getElem? (i := 25) (by decide +kernel), List.mem_of_getElem? (i := 677) (by decide +kernel), List.mem_of_getElem? (i := 678) (by decide +kernel)⟩
theorem lw_p18 : lw_okq (⟨"ForkPoolModel", "raise", "(I)I"⟩, 33) := ⟨⟨by decide +kernel, by decide +kernel⟩, List.mem_of_getElem? (i := 712) (by decide +kernel), List.mem_of_getElem? (i := 830) (by decide +kernel), List.mem_of_getElem? (i := 831) (by decide +kernel)⟩
theorem lw_p19 : lw_okq (⟨"ForkPoolModel", "busy", "(I)Z"⟩, 33) := ⟨⟨by decide +kernel, by decide +kernel⟩, List.mem_of_getElem? (i := 712) (by decide +kernel), List.mem_of_getElem? (i := 834) (by decide +kernel), List.mem_of_getElem? (i := 835) (by decide +kernel)⟩
theorem lw_p20 : lw_okq (⟨"ForkPoolModel", "noElement", "(II)Z"⟩, 33) := ⟨⟨by decide +kernel, by decide +kernel⟩, List.mem_of_getElem? (i := 712) (by decide +kernel), List.mem_of_getElem? (i := 842) (by decide +kernel), List.mem_of_getElem? (i := 843) (by decide +kernel)⟩
theorem lw_p21 : lw_okq (⟨"ForkPoolModel", "node", "(IIII)I"⟩, 33) := ⟨⟨by decide +kernel, by decide +kernel⟩, List.mem_of_getElem? (i := 712) (by decide +kernel), List.mem_of_getElem? (i := 859) (by decide +kernel), List.mem_of_getElem? (i := 860) (by decide +kernel)⟩
theorem lw_p22 : lw_okq (⟨"ForkPoolModel", "put", "(II)V"⟩, 33) := ⟨⟨by decide +kernel, by decide +kernel⟩, List.mem_of_getElem? (i := 712) (by decide +kernel), List.mem_of_getElem? (i := 863) (by decide +kernel), List.mem_of_getElem? (i := 864) (by decide +kernel)⟩
theorem lw_p23 : lw_okq (⟨"ForkPoolModel", "turns", "()Z"⟩, 33) := ⟨⟨by decide +kernel, by decide +kernel⟩, List.mem_of_getElem? (i := 712) (by decide +kernel), List.mem_of_getElem? (i := 871) (by decide +kernel), List.mem_of_getElem? (i := 872) (by decide +kernel)⟩
theorem lw_p24 : lw_okq (⟨"ForkPoolModel", "pull", "(II)I"⟩, 33) := ⟨⟨by decide +kernel, by decide +kernel⟩, List.mem_of_getElem? (i := 712) (by decide +kernel), List.mem_of_getElem? (i := 875) (by decide +kernel), List.mem_of_getElem? (i := 876) (by decide +kernel)⟩
theorem lw_p25 : lw_okq (⟨"ForkPoolModel", "perform", "(II)V"⟩, 33) := ⟨⟨by decide +kernel, by decide +kernel⟩, List.mem_of_getElem? (i := 712) (by decide +kernel), List.mem_of_getElem? (i := 879) (by decide +kernel), List.mem_of_getElem? (i := 880) (by decide +kernel)⟩
theorem lw_p26 : lw_okq (⟨"ForkPoolModel", "fork", "(II)V"⟩, 33) := ⟨⟨by decide +kernel, by decide +kernel⟩, List.mem_of_getElem? (i := 712) (by decide +kernel), List.mem_of_getElem? (i := 883) (by decide +kernel), List.mem_of_getElem? (i := 884) (by decide +kernel)⟩
theorem lw_p27 : lw_okq (⟨"ForkPoolModel", "joined", "(IJJ)J"⟩, 33) := ⟨⟨by decide +kernel, by decide +kernel⟩, List.mem_of_getElem? (i := 712) (by decide +kernel), List.mem_of_getElem? (i := 887) (by decide +kernel), List.mem_of_getElem? (i := 888) (by decide +kernel)⟩
theorem lw_p28 : lw_okq (⟨"ForkPoolModel", "leaf", "(I)Z"⟩, 33) := ⟨⟨by decide +kernel, by decide +kernel⟩, List.mem_of_getElem? (i := 712) (by decide +kernel), List.mem_of_getElem? (i := 891) (by decide +kernel), List.mem_of_getElem? (i := 892) (by decide +kernel)⟩
theorem lw_p29 : lw_okq (⟨"ForkPoolModel", "reduced", "(I)J"⟩, 33) := ⟨⟨by decide +kernel, by decide +kernel⟩, List.mem_of_getElem? (i := 712) (by decide +kernel), List.mem_of_getElem? (i := 895) (by decide +kernel), List.mem_of_getElem? (i := 896) (by decide +kernel)⟩
theorem lw_p30 : lw_okq (⟨"ForkPoolModel", "spread", "(I)V"⟩, 33) := ⟨⟨by decide +kernel, by decide +kernel⟩, List.mem_of_getElem? (i := 712) (by decide +kernel), List.mem_of_getElem? (i := 899) (by decide +kernel), List.mem_of_getElem? (i := 900) (by decide +kernel)⟩
theorem lw_p31 : lw_okq (⟨"ForkPoolModel", "order", "(III)V"⟩, 33) := ⟨⟨by decide +kernel, by decide +kernel⟩, List.mem_of_getElem? (i := 712) (by decide +kernel), List.mem_of_getElem? (i := 903) (by decide +kernel), List.mem_of_getElem? (i := 904) (by decide +kernel)⟩
def lw_privs_2 : List (MethodName × Nat) := [(⟨"ForkPool", "queuedTasks", "(LForkPool$Job;)I"⟩, 7), (⟨"ForkPool", "workerAt", "(I)LForkPool$Worker;"⟩, 7), (⟨"ForkPoolModel", "raise", "(I)I"⟩, 33), (⟨"ForkPoolModel", "busy", "(I)Z"⟩, 33), (⟨"ForkPoolModel", "noElement", "(II)Z"⟩, 33), (⟨"ForkPoolModel", "node", "(IIII)I"⟩, 33), (⟨"ForkPoolModel", "put", "(II)V"⟩, 33), (⟨"ForkPoolModel", "turns", "()Z"⟩, 33), (⟨"ForkPoolModel", "pull", "(II)I"⟩, 33), (⟨"ForkPoolModel", "perform", "(II)V"⟩, 33), (⟨"ForkPoolModel", "fork", "(II)V"⟩, 33), (⟨"ForkPoolModel", "joined", "(IJJ)J"⟩, 33), (⟨"ForkPoolModel", "leaf", "(I)Z"⟩, 33), (⟨"ForkPoolModel", "reduced", "(I)J"⟩, 33), (⟨"ForkPoolModel", "spread", "(I)V"⟩, 33), (⟨"ForkPoolModel", "order", "(III)V"⟩, 33)]
theorem lw_r2 : ∀ q ∈ lw_privs_2, lw_okq q := List.forall_mem_cons.mpr ⟨lw_p16, List.forall_mem_cons.mpr ⟨lw_p17, List.forall_mem_cons.mpr ⟨lw_p18, List.forall_mem_cons.mpr ⟨lw_p19, List.forall_mem_cons.mpr ⟨lw_p20, List.forall_mem_cons.mpr ⟨lw_p21, List.forall_mem_cons.mpr ⟨lw_p22, List.forall_mem_cons.mpr ⟨lw_p23, List.forall_mem_cons.mpr ⟨lw_p24, List.forall_mem_cons.mpr ⟨lw_p25, List.forall_mem_cons.mpr ⟨lw_p26, List.forall_mem_cons.mpr ⟨lw_p27, List.forall_mem_cons.mpr ⟨lw_p28, List.forall_mem_cons.mpr ⟨lw_p29, List.forall_mem_cons.mpr ⟨lw_p30, List.forall_mem_cons.mpr ⟨lw_p31, fun _ h => absurd h List.not_mem_nil⟩⟩⟩⟩⟩⟩⟩⟩⟩⟩⟩⟩⟩⟩⟩⟩
theorem lw_p32 : lw_okq (⟨"ForkPoolModel", "end", "(II)V"⟩, 33) := ⟨⟨by decide +kernel, by decide +kernel⟩, List.mem_of_getElem? (i := 712) (by decide +kernel), List.mem_of_getElem? (i := 907) (by decide +kernel), List.mem_of_getElem? (i := 908) (by decide +kernel)⟩
theorem lw_p33 : lw_okq (⟨"ForkPoolModel", "mapped", "(IJ)J"⟩, 33) := ⟨⟨by decide +kernel, by decide +kernel⟩, List.mem_of_getElem? (i := 712) (by decide +kernel), List.mem_of_getElem? (i := 911) (by decide +kernel), List.mem_of_getElem? (i := 912) (by decide +kernel)⟩
theorem lw_p34 : lw_okq (⟨"ForkPoolModel", "shared", "(IJ)J"⟩, 33) := ⟨⟨by decide +kernel, by decide +kernel⟩, List.mem_of_getElem? (i := 712) (by decide +kernel), List.mem_of_getElem? (i := 916) (by decide +kernel), List.mem_of_getElem? (i := 917) (by decide +kernel)⟩
theorem lw_p35 : lw_okq (⟨"ForkPoolModel", "finished", "(II)V"⟩, 33) := ⟨⟨by decide +kernel, by decide +kernel⟩, List.mem_of_getElem? (i := 712) (by decide +kernel), List.mem_of_getElem? (i := 924) (by decide +kernel), List.mem_of_getElem? (i := 925) (by decide +kernel)⟩
theorem lw_p36 : lw_okq (⟨"ForkPoolModel", "noJob", "(I)Z"⟩, 33) := ⟨⟨by decide +kernel, by decide +kernel⟩, List.mem_of_getElem? (i := 712) (by decide +kernel), List.mem_of_getElem? (i := 932) (by decide +kernel), List.mem_of_getElem? (i := 933) (by decide +kernel)⟩
theorem lw_p37 : lw_okq (⟨"ForkPoolModel", "inQueues", "(I)I"⟩, 33) := ⟨⟨by decide +kernel, by decide +kernel⟩, List.mem_of_getElem? (i := 712) (by decide +kernel), List.mem_of_getElem? (i := 944) (by decide +kernel), List.mem_of_getElem? (i := 945) (by decide +kernel)⟩
def lw_privs_3 : List (MethodName × Nat) := [(⟨"ForkPoolModel", "end", "(II)V"⟩, 33), (⟨"ForkPoolModel", "mapped", "(IJ)J"⟩, 33), (⟨"ForkPoolModel", "shared", "(IJ)J"⟩, 33), (⟨"ForkPoolModel", "finished", "(II)V"⟩, 33), (⟨"ForkPoolModel", "noJob", "(I)Z"⟩, 33), (⟨"ForkPoolModel", "inQueues", "(I)I"⟩, 33)]
theorem lw_r3 : ∀ q ∈ lw_privs_3, lw_okq q := List.forall_mem_cons.mpr ⟨lw_p32, List.forall_mem_cons.mpr ⟨lw_p33, List.forall_mem_cons.mpr ⟨lw_p34, List.forall_mem_cons.mpr ⟨lw_p35, List.forall_mem_cons.mpr ⟨lw_p36, List.forall_mem_cons.mpr ⟨lw_p37, fun _ h => absurd h List.not_mem_nil⟩⟩⟩⟩⟩⟩
def lw_privs : List (MethodName × Nat) := lw_privs_1 ++ (lw_privs_2 ++ (lw_privs_3))
def lw_tbl : List Cond := k2_sels lw_privs ++ tables_1
theorem lw_privs_ok : ∀ q ∈ lw_privs, lw_okq q := by
  show ∀ q ∈ lw_privs_1 ++ (lw_privs_2 ++ (lw_privs_3)), lw_okq q
  exact List.forall_mem_append.mpr ⟨lw_r1, List.forall_mem_append.mpr ⟨lw_r2, lw_r3⟩⟩
end
section
/-! NAMES: classes, fields, array types, words by program -/
def RFP : String := "ForkPool"
def FFP : u_T := fun k => match k with
  | 0 => ("ForkPool", "rows", "[LForkPool$Row;", true)
  | 1 => ("ForkPool", "workers", "[LForkPool$Worker;", true)
  | 2 => ("ForkPool", "jobs", "[LForkPool$Job;", true)
  | 3 => ("ForkPool", "jobsBegun", "I", false)
  | 4 => ("ForkPool", "stepsMade", "I", false)
  | 5 => ("ForkPool", "nextWorker", "I", false)
  | _ => ("ForkPool", "grain", "I", false)
def tFP : Nat → FieldType := fun k => match k with
  | 0 => (.array (.object "ForkPool$Row"))
  | 1 => (.array (.object "ForkPool$Worker"))
  | 2 => (.array (.object "ForkPool$Job"))
  | 3 => .int
  | 4 => .int
  | 5 => .int
  | _ => .int
def RRow : String := "ForkPool$Row"
def FRow : u_T := fun k => match k with
  | 0 => ("ForkPool$Row", "elements", "[J", true)
  | 1 => ("ForkPool$Row", "type", "I", false)
  | _ => ("ForkPool$Row", "length", "I", false)
def tRow : Nat → FieldType := fun k => match k with
  | 0 => (.array .long)
  | 1 => .int
  | _ => .int
def RJob : String := "ForkPool$Job"
def FJob : u_T := fun k => match k with
  | 0 => ("ForkPool$Job", "number", "I", true)
  | 1 => ("ForkPool$Job", "kind", "I", true)
  | 2 => ("ForkPool$Job", "row", "LForkPool$Row;", true)
  | 3 => ("ForkPool$Job", "c", "I", true)
  | 4 => ("ForkPool$Job", "d", "I", true)
  | 5 => ("ForkPool$Job", "state", "I", false)
  | 6 => ("ForkPool$Job", "failedAt", "I", false)
  | 7 => ("ForkPool$Job", "tasksDone", "I", false)
  | 8 => ("ForkPool$Job", "inSecondRound", "Z", false)
  | _ => ("ForkPool$Job", "result", "J", false)
def tJob : Nat → FieldType := fun k => match k with
  | 0 => .int
  | 1 => .int
  | 2 => (.object "ForkPool$Row")
  | 3 => .int
  | 4 => .int
  | 5 => .int
  | 6 => .int
  | 7 => .int
  | 8 => .boolean
  | _ => .long
def RTask : String := "ForkPool$Task"
def FTask : u_T := fun k => match k with
  | 0 => ("ForkPool$Task", "job", "LForkPool$Job;", true)
  | 1 => ("ForkPool$Task", "parent", "LForkPool$Task;", true)
  | 2 => ("ForkPool$Task", "from", "I", true)
  | 3 => ("ForkPool$Task", "to", "I", true)
  | 4 => ("ForkPool$Task", "first", "LForkPool$Task;", false)
  | 5 => ("ForkPool$Task", "second", "LForkPool$Task;", false)
  | 6 => ("ForkPool$Task", "openParts", "I", false)
  | 7 => ("ForkPool$Task", "result", "J", false)
  | _ => ("ForkPool$Task", "base", "J", false)
def tTask : Nat → FieldType := fun k => match k with
  | 0 => (.object "ForkPool$Job")
  | 1 => (.object "ForkPool$Task")
  | 2 => .int
  | 3 => .int
  | 4 => (.object "ForkPool$Task")
  | 5 => (.object "ForkPool$Task")
  | 6 => .int
  | 7 => .long
  | _ => .long
def RWk : String := "ForkPool$Worker"
def FWk : u_T := fun k => match k with
  | 0 => ("ForkPool$Worker", "queue", "Ljava/util/ArrayList;", true)
  | 1 => ("ForkPool$Worker", "tasksDone", "I", false)
  | 2 => ("ForkPool$Worker", "tasksStolen", "I", false)
  | 3 => ("ForkPool$Worker", "idleSteps", "I", false)
  | _ => ("ForkPool$Worker", "victim", "I", false)
def tWk : Nat → FieldType := fun k => match k with
  | 0 => (.object "java/util/ArrayList")
  | 1 => .int
  | 2 => .int
  | 3 => .int
  | _ => .int
def RAL : String := "java/util/ArrayList"
def FAL : u_T := fun k => match k with
  | 0 => ("java/util/ArrayList", "elementData", "[Ljava/lang/Object;", false)
  | 1 => ("java/util/ArrayList", "size", "I", false)
  | _ => ("java/util/AbstractList", "modCount", "I", false)
def tAL : Nat → FieldType := fun k => match k with
  | 0 => (.array (.object "java/lang/Object"))
  | 1 => .int
  | _ => .int
def RMo : String := "ForkPoolModel"
def FMo : u_T := fun k => match k with
  | 0 => ("ForkPoolModel", "thrown", "I", false)
  | 1 => ("ForkPoolModel", "workers", "I", true)
  | 2 => ("ForkPoolModel", "type", "[I", true)
  | 3 => ("ForkPoolModel", "length", "[I", true)
  | 4 => ("ForkPoolModel", "data", "[J", true)
  | 5 => ("ForkPoolModel", "kind", "[I", true)
  | 6 => ("ForkPoolModel", "on", "[I", true)
  | 7 => ("ForkPoolModel", "c", "[I", true)
  | 8 => ("ForkPoolModel", "d", "[I", true)
  | 9 => ("ForkPoolModel", "state", "[I", true)
  | 10 => ("ForkPoolModel", "failedAt", "[I", true)
  | 11 => ("ForkPoolModel", "did", "[I", true)
  | 12 => ("ForkPoolModel", "root", "[I", true)
  | 13 => ("ForkPoolModel", "round", "[I", true)
  | 14 => ("ForkPoolModel", "jobs", "I", false)
  | 15 => ("ForkPoolModel", "of", "[I", true)
  | 16 => ("ForkPoolModel", "from", "[I", true)
  | 17 => ("ForkPoolModel", "to", "[I", true)
  | 18 => ("ForkPoolModel", "parent", "[I", true)
  | 19 => ("ForkPoolModel", "child", "[I", true)
  | 20 => ("ForkPoolModel", "over", "[I", true)
  | 21 => ("ForkPoolModel", "result", "[J", true)
  | 22 => ("ForkPoolModel", "base", "[J", true)
  | 23 => ("ForkPoolModel", "tasks", "I", false)
  | 24 => ("ForkPoolModel", "queue", "[I", true)
  | 25 => ("ForkPoolModel", "queued", "[I", true)
  | 26 => ("ForkPoolModel", "done", "[I", true)
  | 27 => ("ForkPoolModel", "stolen", "[I", true)
  | 28 => ("ForkPoolModel", "idle", "[I", true)
  | 29 => ("ForkPoolModel", "victim", "[I", true)
  | 30 => ("ForkPoolModel", "grain", "I", false)
  | 31 => ("ForkPoolModel", "steps", "I", false)
  | _ => ("ForkPoolModel", "turn", "I", false)
def tMo : Nat → FieldType := fun k => match k with
  | 0 => .int
  | 1 => .int
  | 2 => (.array .int)
  | 3 => (.array .int)
  | 4 => (.array .long)
  | 5 => (.array .int)
  | 6 => (.array .int)
  | 7 => (.array .int)
  | 8 => (.array .int)
  | 9 => (.array .int)
  | 10 => (.array .int)
  | 11 => (.array .int)
  | 12 => (.array .int)
  | 13 => (.array .int)
  | 14 => .int
  | 15 => (.array .int)
  | 16 => (.array .int)
  | 17 => (.array .int)
  | 18 => (.array .int)
  | 19 => (.array .int)
  | 20 => (.array .int)
  | 21 => (.array .long)
  | 22 => (.array .long)
  | 23 => .int
  | 24 => (.array .int)
  | 25 => (.array .int)
  | 26 => (.array .int)
  | 27 => (.array .int)
  | 28 => (.array .int)
  | 29 => (.array .int)
  | 30 => .int
  | 31 => .int
  | _ => .int
def REIA : String := "java/lang/IllegalArgumentException"
def FEIA : u_T := fun k => match k with
  | _ => ("", "", "", false)
def tEIA : Nat → FieldType := fun k => match k with
  | _ => .int
def REIS : String := "java/lang/IllegalStateException"
def FEIS : u_T := fun k => match k with
  | _ => ("", "", "", false)
def tEIS : Nat → FieldType := fun k => match k with
  | _ => .int
def RENS : String := "java/util/NoSuchElementException"
def FENS : u_T := fun k => match k with
  | _ => ("", "", "", false)
def tENS : Nat → FieldType := fun k => match k with
  | _ => .int
def REAr : String := "java/lang/ArithmeticException"
def FEAr : u_T := fun k => match k with
  | _ => ("", "", "", false)
def tEAr : Nat → FieldType := fun k => match k with
  | _ => .int
def REUn : String := "java/lang/UnsupportedOperationException"
def FEUn : u_T := fun k => match k with
  | _ => ("", "", "", false)
def tEUn : Nat → FieldType := fun k => match k with
  | _ => .int
def fxCl : List vw_C := [(RFP, FFP, 7), (RRow, FRow, 3), (RJob, FJob, 10), (RTask, FTask, 9), (RWk, FWk, 5), (RAL, FAL, 3), (RMo, FMo, 33), (REIA, FEIA, 0), (REIS, FEIS, 0), (RENS, FENS, 0), (REAr, FEAr, 0), (REUn, FEUn, 0)]
def fxAr : List FieldType := [.long, .int, .object "java/lang/Object", .object "ForkPool$Row", .object "ForkPool$Worker", .object "ForkPool$Job"]
def fxok : Cond → Bool
  | .fieldLinkNest .. | .methodLinkNest .. | .castable .. | .declares .. => true
  | .arrayOver (.object _) => true
  | w => goodWord w
def fxTW : List Cond := lw_tbl.filter fxok
theorem fxTW_in {w : Cond} (i : Nat) (h : lw_tbl[i]? = some w) (hk : fxok w = true) : w ∈ fxTW := List.mem_filter.mpr ⟨List.mem_of_getElem? h, hk⟩
theorem fxok_good {w : Cond} (h : goodWord w = true) {args a' : Array Value} {s U : State} (hW : s.WarmedH U.vm) (hb : w.before args s = true) : w.before a' U = true := word_at hW (good_of_word h) hb
theorem fxTW_at {w : Cond} (h : w ∈ fxTW) {args a' : Array Value} {s U : State} (hW : s.WarmedH U.vm) (hb : w.before args s = true) : w.before a' U = true := by
  have hk := (List.mem_filter.mp h).2
  cases w with
  | fieldLinkNest a i b n d h => exact va_Nw.use rfl (va_Nw.warmF hW (va_Nw.of rfl hb))
  | methodLinkNest a i x h => exact va_Nw.use rfl (va_Nw.warmM hW (va_Nw.of rfl hb))
  | castable a b => exact va_Nw.use rfl (va_Nw.warmC hW (va_Nw.of rfl hb))
  | declares x => exact va_Nw.use rfl (va_Nw.warmD hW (va_Nw.of rfl hb))
  | arrayOver ty =>
    cases ty with
    | object C => exact va_AO.use (va_AO.moved hW.alike (va_AO.of hb))
    | _ => (refine fxok_good ?_ hW hb; exact hk)
  | _ => (refine fxok_good ?_ hW hb; exact hk)
theorem inFP : ∀ w ∈ u_ws RFP FFP 7, w ∈ fxTW := by decide +kernel
theorem tyFP : ∀ k, k < 7 → parseFieldDescriptor (FFP k).2.2.1 = some (tFP k) := by decide +kernel
theorem nmFP : ∀ a, a < 7 → ∀ b, b < 7 → a ≠ b → (FFP a).2.1 ≠ (FFP b).2.1 := by decide +kernel
theorem inRow : ∀ w ∈ u_ws RRow FRow 3, w ∈ fxTW := by decide +kernel
theorem tyRow : ∀ k, k < 3 → parseFieldDescriptor (FRow k).2.2.1 = some (tRow k) := by decide +kernel
theorem nmRow : ∀ a, a < 3 → ∀ b, b < 3 → a ≠ b → (FRow a).2.1 ≠ (FRow b).2.1 := by decide +kernel
theorem inJob : ∀ w ∈ u_ws RJob FJob 10, w ∈ fxTW := by decide +kernel
theorem tyJob : ∀ k, k < 10 → parseFieldDescriptor (FJob k).2.2.1 = some (tJob k) := by decide +kernel
theorem nmJob : ∀ a, a < 10 → ∀ b, b < 10 → a ≠ b → (FJob a).2.1 ≠ (FJob b).2.1 := by decide +kernel
theorem inTask : ∀ w ∈ u_ws RTask FTask 9, w ∈ fxTW := by decide +kernel
theorem tyTask : ∀ k, k < 9 → parseFieldDescriptor (FTask k).2.2.1 = some (tTask k) := by decide +kernel
theorem nmTask : ∀ a, a < 9 → ∀ b, b < 9 → a ≠ b → (FTask a).2.1 ≠ (FTask b).2.1 := by decide +kernel
theorem inWk : ∀ w ∈ u_ws RWk FWk 5, w ∈ fxTW := by decide +kernel
theorem tyWk : ∀ k, k < 5 → parseFieldDescriptor (FWk k).2.2.1 = some (tWk k) := by decide +kernel
theorem nmWk : ∀ a, a < 5 → ∀ b, b < 5 → a ≠ b → (FWk a).2.1 ≠ (FWk b).2.1 := by decide +kernel
theorem inAL : ∀ w ∈ u_ws RAL FAL 3, w ∈ fxTW := by decide +kernel
theorem tyAL : ∀ k, k < 3 → parseFieldDescriptor (FAL k).2.2.1 = some (tAL k) := by decide +kernel
theorem nmAL : ∀ a, a < 3 → ∀ b, b < 3 → a ≠ b → (FAL a).2.1 ≠ (FAL b).2.1 := by decide +kernel
theorem inMo : ∀ w ∈ u_ws RMo FMo 33, w ∈ fxTW := by decide +kernel
theorem tyMo : ∀ k, k < 33 → parseFieldDescriptor (FMo k).2.2.1 = some (tMo k) := by decide +kernel
theorem nmMo : ∀ a, a < 33 → ∀ b, b < 33 → a ≠ b → (FMo a).2.1 ≠ (FMo b).2.1 := by decide +kernel
def fxStr : List (String × Nat × String) := [("ForkPool", 50, "array, type or length out of range"), ("ForkPool", 219, "a job on the array is running"), ("ForkPool", 211, "no such array"), ("ForkPool", 213, "no such element"), ("ForkPool", 79, "kind or worker out of range"), ("ForkPool", 81, "c or d out of range"), ("ForkPool", 88, "all jobs were begun"), ("ForkPool", 109, "number of steps out of range"), ("ForkPool", 221, "no such job"), ("ForkPool", 125, "the job has failed"), ("ForkPool", 133, "a job of this kind has no result"), ("ForkPool", 136, "the job is not done"), ("ForkPool", 142, "the job has ended"), ("ForkPool", 158, "no such fact of a job"), ("ForkPool", 223, "no such worker"), ("ForkPool", 170, "no such task"), ("ForkPool", 187, "no such fact of a task"), ("ForkPool", 199, "no such fact of a worker"), ("ForkPool", 201, "grain out of range"), ("ForkPool", 209, "no such count")]
/-- what stays of the start: ArrayList's empty array, the texts, the statics of Throwable -/
def fxO (_ : Launch) (b : Nat) (Hb : Heap) (ad : Nat → Nat) (U : State) : Prop :=
  va_Z "java/util/ArrayList" "DEFAULTCAPACITY_EMPTY_ELEMENTDATA" "[Ljava/lang/Object;" (.ref (ad 0)) (fun q => b ≤ q) U Hb ∧ (∀ q ∈ fxStr, ∃ a, vk_R q.1 q.2.1 q.2.2 a U) ∧
  va_Zq "java/lang/Throwable" "UNASSIGNED_STACK" "[Ljava/lang/StackTraceElement;" (fun q => b ≤ q) U Hb ∧ va_Zq "java/lang/Throwable" "SUPPRESSED_SENTINEL" "Ljava/util/List;" (fun q => b ≤ q) U Hb
theorem fxO_moved {l : Launch} {b : Nat} {Hb : Heap} {ad : Nat → Nat} {u U : State} (hW : u.WarmedH U.vm) (h : fxO l b Hb ad u) : fxO l b Hb ad U :=
  ⟨va_Z.moved hW.alike h.1, fun q hq => by obtain ⟨a, ha⟩ := h.2.1 q hq; exact ⟨a, vk_R.warm hW ha⟩, va_Zq.moved hW.alike h.2.2.1, va_Zq.moved hW.alike h.2.2.2⟩
end
section
/-! THE WORLD AS MAPS. kind of a cell (class number, or 100 + number of the array type, length), fields by number (64 * class + place), elements by array type, the next address, the slots laid so far. -/
abbrev fxW : Type := (Nat → Option (Nat × Nat)) × (Nat → Nat → Value) × (Nat → Nat → Nat → Value) × Nat × Nat
def fxk (w : fxW) : Nat → Option (Nat × Nat) := w.1
def fxf (w : fxW) : Nat → Nat → Value := w.2.1
def fxe (w : fxW) : Nat → Nat → Nat → Value := w.2.2.1
def fxt (w : fxW) : Nat := w.2.2.2.1
def fxu (w : fxW) : Nat := w.2.2.2.2
/-- a field is put -/
def fx_put (w : fxW) (g a : Nat) (v : Value) : fxW := (w.1, fun g' a' => if g' = g then (if a' = a then v else w.2.1 g' a') else w.2.1 g' a', w.2.2)
/-- an element is put -/
def fx_ast (w : fxW) (t a j : Nat) (v : Value) : fxW := (w.1, w.2.1, fun t' a' j' => if t' = t then (if a' = a then (if j' = j then v else w.2.2.1 t' a' j') else w.2.2.1 t' a' j') else w.2.2.1 t' a' j', w.2.2.2)
/-- an object of the class c with n slots is made, its fields by z -/
def fx_new (w : fxW) (c n : Nat) (z : Nat → Value) : fxW := (fun a => if a = w.2.2.2.1 then some (c, 0) else w.1 a, fun g a => if a = w.2.2.2.1 then (if 64 * c ≤ g then z (g - 64 * c) else w.2.1 g a) else w.2.1 g a, w.2.2.1, w.2.2.2.1 + 1, w.2.2.2.2 + n)
/-- an array of the type t and the length n is made, its elements z -/
def fx_newa (w : fxW) (t n : Nat) (z : Value) : fxW := (fun a => if a = w.2.2.2.1 then some (100 + t, n) else w.1 a, w.2.1, fun t' a j => if a = w.2.2.2.1 then z else w.2.2.1 t' a j, w.2.2.2.1 + 1, w.2.2.2.2 + n)
/-- the fixed things: the launch, the classes' numbers and slots, the array classes, the first address that may be written, the heap that was there, the most cells, the most slots, the old addresses -/
abbrev fxG : Type := Launch × va_G × (Nat → ClassId) × Nat × Heap × Nat × Nat × (Nat → Nat)
def fxl (G : fxG) : Launch := G.1
def fxD (G : fxG) : va_G := G.2.1
def fxA (G : fxG) : Nat → ClassId := G.2.2.1
def fxb (G : fxG) : Nat := G.2.2.2.1
def fxHb (G : fxG) : Heap := G.2.2.2.2.1
def fxmt (G : fxG) : Nat := G.2.2.2.2.2.1
def fxmu (G : fxG) : Nat := G.2.2.2.2.2.2.1
def fxad (G : fxG) : Nat → Nat := G.2.2.2.2.2.2.2
/-- the heap holds the world -/
def fxH (G : fxG) (w : fxW) (H : Heap) : Prop :=
  H.size = fxt w ∧ (∀ q : Nat, q < fxb G → H[q]? = (fxHb G)[q]?) ∧ fxb G ≤ fxt w ∧ fxt w ≤ fxmt G ∧ fxu w ≤ fxmu G ∧
  ∀ a c n : Nat, fxk w a = some (c, n) →
    (c < 100 ∧ fxb G ≤ a ∧ ∃ r : vw_C, fxCl[c]? = some r ∧ t_OB a ((fxD G).1 c) r.2.2 ((fxD G).2 c) H (fun k => fxf w (64 * c + k) a)) ∨
    (∃ (t : Nat) (ty : FieldType), t < 100 ∧ ((c = 100 + t ∧ fxb G ≤ a) ∨ c = 200 + t) ∧ fxAr[t]? = some ty ∧ H[a]? = some (arrV (fxA G t) n (fun j => fxe w t a j)))
def fxT (G : fxG) : List (ClassId × FieldType) := (List.range fxAr.length).map fun t => (fxA G t, fxAr.getD t .int)
/-- what the tables say, at a state -/
def fxV (G : fxG) (U : State) : Prop := va_K (fxD G) fxCl (fxT G) U ∧ fxO (fxl G) (fxb G) (fxHb G) (fxad G) U
def fxI (G : fxG) (w : fxW) (U : State) : Prop := fxH G w U.heap ∧ fxV G U
theorem fxV.moved {G : fxG} {u U : State} (hW : u.WarmedH U.vm) (h : fxV G u) : fxV G U := ⟨va_K.moved hW.alike h.1, fxO_moved hW h.2⟩
theorem fxT_at {G : fxG} {t : Nat} {ty : FieldType} (h : fxAr[t]? = some ty) : (fxT G)[t]? = some (fxA G t, ty) := by
  have hl : t < fxAr.length := (List.getElem?_eq_some_iff.mp h).1
  simp [fxT, hl, List.getElem?_map, List.getElem?_range, h]
  exact (List.getElem?_eq_some_iff.mp h).2

/-- the machine's own things: program, environment, room, state at the entry, method, arguments, frames below, method, code, cells and slots at the entry -/
abbrev fxX : Type := Program × Env × Room × State × MethodId × Array Value × List Frame × Method × Code × Nat × Nat
def fxRm (G : fxG) (d : Nat) (w : fxW) : Room := { frames := d, cells := fxmt G - fxt w, slots := fxmu G - fxu w, locals := 38 * d + 20 }
/-- how a method ends -/
def fxE (G : fxG) (t0 u0 : Nat) (P : Outcome → fxW → Prop) (s : State) (o : Outcome) (t : State) : Prop :=
  ∃ w' : fxW, P o w' ∧ fxI G w' t ∧ ∃ (L : List Loc) (k n : Nat), s.WarmedH t.vm ∧ s.sameButNew ({ t with vm := s.vm } : State) L k n ∧ (∀ q ∈ L, fxb G ≤ q.base) ∧ t0 + k = fxt w' ∧ u0 + n = fxu w'
/-- THE CONTRACT: method y with the arguments as, from the world w, ends, and 'P outcome world' -/
def fxM (G : fxG) (d : Nat) (y : MethodName) (as : List Value) (w : fxW) (P : Outcome → fxW → Prop) : Prop :=
  MetFree (fxl G) y (headSpec fxTW (fxRm G d w)) (fun a s => a = as.toArray ∧ fxI G w s) (fun _ _ _ _ _ => True) (fun _ s o t => fxE G (fxt w) (fxu w) P s o t)
/-- what is known inside a method -/
def fxC (G : fxG) (d : Nat) (cc : ByteArray) (nL : Nat) (own nm : String) (ret : Option FieldType) (hh : List (Nat × Nat × Nat × Nat)) (x : fxX) : Prop :=
  match x with
  | (p, e, R, s, m, args, _, meth, c, t0, u0) => p.tables.exec = Jvm.exec ∧ c.code = cc ∧ c.maxLocals = nL ∧ s.vm.findClass own = some m.cls ∧ (∀ w ∈ fxTW, w.before args s = true) ∧ fxV G s ∧ meth.sig.returnType = ret ∧ meth.locks = false ∧ meth.name = nm ∧
    s.heap.size = t0 ∧ t0 + R.cells = fxmt G ∧ u0 + R.slots = fxmu G ∧ d ≤ R.frames ∧ 38 * d + 20 ≤ R.locals ∧ fxb G ≤ t0 ∧ c.exceptionTable.toList.map (fun x => (x.startPc, x.endPc, x.handlerPc, x.catchType)) = hh ∧ (fxl G).admits e
def fxWk (G : fxG) (x : fxX) (H : Heap) (locs : List Loc) (cells slots : Nat) (Q : State → Prop) (pc : Nat) (sl : Array Slot) (st : List Value) : Prop :=
  match x with
  | (p, e, R, s, m, args, below, meth, c, _, _) => W p (fxl G) e R s m args below meth c H locs cells slots Q (F0 m pc sl st)
def fxt0 (x : fxX) : Nat := x.2.2.2.2.2.2.2.2.2.1
def fxu0 (x : fxX) : Nat := x.2.2.2.2.2.2.2.2.2.2
/-- THE WALK: at pc, with the locals ls, the stack st, in the world w -/
def fxR (G : fxG) (nL : Nat) (x : fxX) (Q : State → Prop) (w : fxW) (pc : Nat) (ls : List (Nat × Value)) (st : List Value) : Prop :=
  ∀ (H : Heap) (locs : List Loc) (sl : Array Slot) (cells slots : Nat), fxH G w H → (∀ q ∈ locs, fxb G ≤ q.base) → lv_has sl nL ls → fxt0 x + cells = fxt w → fxu0 x + slots = fxu w → fxWk G x H locs cells slots Q pc sl st
/-- a local -/
def fxL (ls : List (Nat × Value)) (i : Nat) : Option Value := (ls.find? (fun q => q.1 == i)).map (fun q => q.2)
def fxS1 (i : Nat) (v : Value) (ls : List (Nat × Value)) : List (Nat × Value) := (i, v) :: ls.filter (fun q => !(q.1 == i) && !(q.1 + 1 == i && q.2.category == 2))
def fxS2 (i : Nat) (v : Value) (ls : List (Nat × Value)) : List (Nat × Value) := (i, v) :: ls.filter (fun q => !(q.1 == i) && (!(q.1 == i + 1) && !(q.1 + 1 == i && q.2.category == 2)))
theorem fxL_at {sl : Array Slot} {nL : Nat} {ls : List (Nat × Value)} {i : Nat} {v : Value} (h : lv_has sl nL ls) (hl : fxL ls i = some v) : sl[i]? = some (.val v) := by
  unfold fxL at hl
  cases hf : ls.find? (fun q => q.1 == i) with
  | none => rw [hf] at hl; cases hl
  | some q =>
    rw [hf] at hl
    have h1 := List.find?_some hf
    have h2 := List.mem_of_find?_eq_some hf
    have h3 := h.2.2 q h2
    simp at h1 hl
    rw [← h1, ← hl]
    exact h3
theorem fxL_mem {ls : List (Nat × Value)} {i : Nat} {v : Value} (hl : fxL ls i = some v) : (i, v) ∈ ls := by
  unfold fxL at hl
  cases hf : ls.find? (fun q => q.1 == i) with
  | none => rw [hf] at hl; cases hl
  | some q =>
    rw [hf] at hl
    have h1 := List.find?_some hf
    have h2 := List.mem_of_find?_eq_some hf
    simp at h1 hl
    rw [← h1, ← hl]
    exact h2
section FX
variable {G : fxG} {d nL : Nat} {cc : ByteArray} {own nm : String} {ret : Option FieldType} {hh : List (Nat × Nat × Nat × Nat)} {x : fxX} {Q : State → Prop} {w : fxW} {pc : Nat} {ls : List (Nat × Value)} {st : List Value}
/-- fewer locals -/
theorem fx_sub {ls' : List (Nat × Value)} (h : ∀ q ∈ ls', fxL ls q.1 = some q.2) (k : fxR G nL x Q w pc ls' st) : fxR G nL x Q w pc ls st :=
  fun H locs sl cells slots h1 h2 h3 h4 h5 => k H locs sl cells slots h1 h2 ⟨h3.1, h3.2.1, fun q hq => fxL_at h3 (h q hq)⟩ h4 h5
/-- another writing of the same world, stack, place -/
theorem fx_eq {w' : fxW} {st' : List Value} (hw : w = w') (hs : st = st') (k : fxR G nL x Q w' pc ls st') : fxR G nL x Q w pc ls st := by
  subst hw; subst hs; exact k
theorem fx_lift {pc' : Nat} {st' : List Value} (h : ∀ (H : Heap) (locs : List Loc) (sl : Array Slot) (cells slots : Nat), lv_has sl nL ls → fxWk G x H locs cells slots Q pc' sl st' → fxWk G x H locs cells slots Q pc sl st) (k : fxR G nL x Q w pc' ls st') : fxR G nL x Q w pc ls st :=
  fun H locs sl cells slots h1 h2 h3 h4 h5 => h H locs sl cells slots h3 (k H locs sl cells slots h1 h2 h3 h4 h5)
theorem fx_lift2 {A B : Prop} {pc1 pc2 : Nat} {st1 st2 : List Value} (h : ∀ (H : Heap) (locs : List Loc) (sl : Array Slot) (cells slots : Nat), (A → fxWk G x H locs cells slots Q pc1 sl st1) → (B → fxWk G x H locs cells slots Q pc2 sl st2) → fxWk G x H locs cells slots Q pc sl st) (k1 : A → fxR G nL x Q w pc1 ls st1) (k2 : B → fxR G nL x Q w pc2 ls st2) : fxR G nL x Q w pc ls st :=
  fun H locs sl cells slots h1 h2 h3 h4 h5 => h H locs sl cells slots (fun a => k1 a H locs sl cells slots h1 h2 h3 h4 h5) (fun b => k2 b H locs sl cells slots h1 h2 h3 h4 h5)
theorem fx_liftS {ls' : List (Nat × Value)} {pc' : Nat} {st' : List Value} (h : ∀ (H : Heap) (locs : List Loc) (sl : Array Slot) (cells slots : Nat), lv_has sl nL ls → (∀ sl' : Array Slot, lv_has sl' nL ls' → fxWk G x H locs cells slots Q pc' sl' st') → fxWk G x H locs cells slots Q pc sl st) (k : fxR G nL x Q w pc' ls' st') : fxR G nL x Q w pc ls st :=
  fun H locs sl cells slots h1 h2 h3 h4 h5 => h H locs sl cells slots h3 (fun sl' h3' => k H locs sl' cells slots h1 h2 h3' h4 h5)

theorem r_iconst (C : fxC G d cc nL own nm ret hh x) {n : Int} {v : Int32} (hd : decode cc pc = .ok (.iconst n, 1)) (hv : Int32.ofInt n = v) (k : fxR G nL x Q w (pc + 1) ls (.int v :: st)) : fxR G nL x Q w pc ls (st) := by
  obtain ⟨p, e, R, s, m, args, below, meth, c, t0, u0⟩ := x
  obtain ⟨hx, hb, C2⟩ := C
  exact fx_lift (fun H locs sl cells slots h3 kk => lv_iconst hx hb hd hv kk) k
theorem r_bipush (C : fxC G d cc nL own nm ret hh x) {n : Int} {v : Int32} (hd : decode cc pc = .ok (.bipush n, 2)) (hv : (Int8.ofInt n).toInt32 = v) (k : fxR G nL x Q w (pc + 2) ls (.int v :: st)) : fxR G nL x Q w pc ls (st) := by
  obtain ⟨p, e, R, s, m, args, below, meth, c, t0, u0⟩ := x
  obtain ⟨hx, hb, C2⟩ := C
  exact fx_lift (fun H locs sl cells slots h3 kk => lv_bipush hx hb hd hv kk) k
theorem r_sipush (C : fxC G d cc nL own nm ret hh x) {n : Int} {v : Int32} (hd : decode cc pc = .ok (.sipush n, 3)) (hv : (Int16.ofInt n).toInt32 = v) (k : fxR G nL x Q w (pc + 3) ls (.int v :: st)) : fxR G nL x Q w pc ls (st) := by
  obtain ⟨p, e, R, s, m, args, below, meth, c, t0, u0⟩ := x
  obtain ⟨hx, hb, C2⟩ := C
  exact fx_lift (fun H locs sl cells slots h3 kk => lv_sipush hx hb hd hv kk) k
theorem r_lconst (C : fxC G d cc nL own nm ret hh x) {n : Fin 2} {v : Int64} (hd : decode cc pc = .ok (.lconst n, 1)) (hv : Int64.ofNat (n : Nat) = v) (k : fxR G nL x Q w (pc + 1) ls (.long v :: st)) : fxR G nL x Q w pc ls (st) := by
  obtain ⟨p, e, R, s, m, args, below, meth, c, t0, u0⟩ := x
  obtain ⟨hx, hb, C2⟩ := C
  exact fx_lift (fun H locs sl cells slots h3 kk => lv_lconst hx hb hd hv kk) k
theorem r_null (C : fxC G d cc nL own nm ret hh x) (hd : decode cc pc = .ok (.aconst_null, 1)) (k : fxR G nL x Q w (pc + 1) ls (.null :: st)) : fxR G nL x Q w pc ls (st) := by
  obtain ⟨p, e, R, s, m, args, below, meth, c, t0, u0⟩ := x
  obtain ⟨hx, hb, C2⟩ := C
  exact fx_lift (fun H locs sl cells slots h3 kk => lv_null hx hb hd kk) k
theorem r_iload_n (C : fxC G d cc nL own nm ret hh x) {k0 : Fin 4} {i : Nat} {v : Int32} (hd : decode cc pc = .ok (.iload_n k0, 1)) (hi : (k0 : Nat) = i) (hl : fxL ls i = some (.int v)) (k : fxR G nL x Q w (pc + 1) ls (.int v :: st)) : fxR G nL x Q w pc ls (st) := by
  obtain ⟨p, e, R, s, m, args, below, meth, c, t0, u0⟩ := x
  obtain ⟨hx, hb, C2⟩ := C
  exact fx_lift (fun H locs sl cells slots h3 kk => lv_iload_n hx hb hd hi (fxL_at h3 hl) kk) k
theorem r_iload (C : fxC G d cc nL own nm ret hh x) {i : Nat} {v : Int32} (hd : decode cc pc = .ok (.iload i, 2)) (hl : fxL ls i = some (.int v)) (k : fxR G nL x Q w (pc + 2) ls (.int v :: st)) : fxR G nL x Q w pc ls (st) := by
  obtain ⟨p, e, R, s, m, args, below, meth, c, t0, u0⟩ := x
  obtain ⟨hx, hb, C2⟩ := C
  exact fx_lift (fun H locs sl cells slots h3 kk => lv_iload hx hb hd (fxL_at h3 hl) kk) k
theorem r_lload_n (C : fxC G d cc nL own nm ret hh x) {k0 : Fin 4} {i : Nat} {v : Int64} (hd : decode cc pc = .ok (.lload_n k0, 1)) (hi : (k0 : Nat) = i) (hl : fxL ls i = some (.long v)) (k : fxR G nL x Q w (pc + 1) ls (.long v :: st)) : fxR G nL x Q w pc ls (st) := by
  obtain ⟨p, e, R, s, m, args, below, meth, c, t0, u0⟩ := x
  obtain ⟨hx, hb, C2⟩ := C
  exact fx_lift (fun H locs sl cells slots h3 kk => lv_lload_n hx hb hd hi (fxL_at h3 hl) kk) k
theorem r_lload (C : fxC G d cc nL own nm ret hh x) {i : Nat} {v : Int64} (hd : decode cc pc = .ok (.lload i, 2)) (hl : fxL ls i = some (.long v)) (k : fxR G nL x Q w (pc + 2) ls (.long v :: st)) : fxR G nL x Q w pc ls (st) := by
  obtain ⟨p, e, R, s, m, args, below, meth, c, t0, u0⟩ := x
  obtain ⟨hx, hb, C2⟩ := C
  exact fx_lift (fun H locs sl cells slots h3 kk => lv_lload hx hb hd (fxL_at h3 hl) kk) k
theorem r_aload_n (C : fxC G d cc nL own nm ret hh x) {k0 : Fin 4} {i : Nat} {v : Nat} (hd : decode cc pc = .ok (.aload_n k0, 1)) (hi : (k0 : Nat) = i) (hl : fxL ls i = some (.ref v)) (k : fxR G nL x Q w (pc + 1) ls (.ref v :: st)) : fxR G nL x Q w pc ls (st) := by
  obtain ⟨p, e, R, s, m, args, below, meth, c, t0, u0⟩ := x
  obtain ⟨hx, hb, C2⟩ := C
  exact fx_lift (fun H locs sl cells slots h3 kk => lv_aload_n hx hb hd hi (fxL_at h3 hl) kk) k
theorem r_aload (C : fxC G d cc nL own nm ret hh x) {i : Nat} {v : Nat} (hd : decode cc pc = .ok (.aload i, 2)) (hl : fxL ls i = some (.ref v)) (k : fxR G nL x Q w (pc + 2) ls (.ref v :: st)) : fxR G nL x Q w pc ls (st) := by
  obtain ⟨p, e, R, s, m, args, below, meth, c, t0, u0⟩ := x
  obtain ⟨hx, hb, C2⟩ := C
  exact fx_lift (fun H locs sl cells slots h3 kk => lv_aload hx hb hd (fxL_at h3 hl) kk) k
theorem r_aload_nN (C : fxC G d cc nL own nm ret hh x) {k0 : Fin 4} {i : Nat} (hd : decode cc pc = .ok (.aload_n k0, 1)) (hi : (k0 : Nat) = i) (hl : fxL ls i = some .null) (k : fxR G nL x Q w (pc + 1) ls (.null :: st)) : fxR G nL x Q w pc ls (st) := by
  obtain ⟨p, e, R, s, m, args, below, meth, c, t0, u0⟩ := x
  obtain ⟨hx, hb, C2⟩ := C
  exact fx_lift (fun H locs sl cells slots h3 kk => lv_aload_nN hx hb hd hi (fxL_at h3 hl) kk) k
theorem r_aloadN (C : fxC G d cc nL own nm ret hh x) {i : Nat} (hd : decode cc pc = .ok (.aload i, 2)) (hl : fxL ls i = some .null) (k : fxR G nL x Q w (pc + 2) ls (.null :: st)) : fxR G nL x Q w pc ls (st) := by
  obtain ⟨p, e, R, s, m, args, below, meth, c, t0, u0⟩ := x
  obtain ⟨hx, hb, C2⟩ := C
  exact fx_lift (fun H locs sl cells slots h3 kk => lv_aloadN hx hb hd (fxL_at h3 hl) kk) k
theorem r_istore_n (C : fxC G d cc nL own nm ret hh x) {k0 : Fin 4} {i : Nat} {v : Int32} {ls' : List (Nat × Value)} (hd : decode cc pc = .ok (.istore_n k0, 1)) (hi : (k0 : Nat) = i) (hn : i < nL) (hl : fxS1 i (.int v) ls = ls') (k : fxR G nL x Q w (pc + 1) ls' st) : fxR G nL x Q w pc ls (.int v :: st) := by
  obtain ⟨p, e, R, s, m, args, below, meth, c, t0, u0⟩ := x
  obtain ⟨hx, hb, C2⟩ := C
  exact fx_liftS (fun H locs sl cells slots h3 kk => lv_istore_n hx hb hd hi h3 hn hl kk) k
theorem r_istore (C : fxC G d cc nL own nm ret hh x) {i : Nat} {v : Int32} {ls' : List (Nat × Value)} (hd : decode cc pc = .ok (.istore i, 2)) (hn : i < nL) (hl : fxS1 i (.int v) ls = ls') (k : fxR G nL x Q w (pc + 2) ls' st) : fxR G nL x Q w pc ls (.int v :: st) := by
  obtain ⟨p, e, R, s, m, args, below, meth, c, t0, u0⟩ := x
  obtain ⟨hx, hb, C2⟩ := C
  exact fx_liftS (fun H locs sl cells slots h3 kk => lv_istore hx hb hd h3 hn hl kk) k
theorem r_lstore_n (C : fxC G d cc nL own nm ret hh x) {k0 : Fin 4} {i : Nat} {v : Int64} {ls' : List (Nat × Value)} (hd : decode cc pc = .ok (.lstore_n k0, 1)) (hi : (k0 : Nat) = i) (hn : i + 1 < nL) (hl : fxS2 i (.long v) ls = ls') (k : fxR G nL x Q w (pc + 1) ls' st) : fxR G nL x Q w pc ls (.long v :: st) := by
  obtain ⟨p, e, R, s, m, args, below, meth, c, t0, u0⟩ := x
  obtain ⟨hx, hb, C2⟩ := C
  exact fx_liftS (fun H locs sl cells slots h3 kk => lv_lstore_n hx hb hd hi h3 hn hl kk) k
theorem r_lstore (C : fxC G d cc nL own nm ret hh x) {i : Nat} {v : Int64} {ls' : List (Nat × Value)} (hd : decode cc pc = .ok (.lstore i, 2)) (hn : i + 1 < nL) (hl : fxS2 i (.long v) ls = ls') (k : fxR G nL x Q w (pc + 2) ls' st) : fxR G nL x Q w pc ls (.long v :: st) := by
  obtain ⟨p, e, R, s, m, args, below, meth, c, t0, u0⟩ := x
  obtain ⟨hx, hb, C2⟩ := C
  exact fx_liftS (fun H locs sl cells slots h3 kk => lv_lstore hx hb hd h3 hn hl kk) k
theorem r_astore_n (C : fxC G d cc nL own nm ret hh x) {k0 : Fin 4} {i : Nat} {v : Nat} {ls' : List (Nat × Value)} (hd : decode cc pc = .ok (.astore_n k0, 1)) (hi : (k0 : Nat) = i) (hn : i < nL) (hl : fxS1 i (.ref v) ls = ls') (k : fxR G nL x Q w (pc + 1) ls' st) : fxR G nL x Q w pc ls (.ref v :: st) := by
  obtain ⟨p, e, R, s, m, args, below, meth, c, t0, u0⟩ := x
  obtain ⟨hx, hb, C2⟩ := C
  exact fx_liftS (fun H locs sl cells slots h3 kk => lv_astore_n hx hb hd hi h3 hn hl kk) k
theorem r_astore (C : fxC G d cc nL own nm ret hh x) {i : Nat} {v : Nat} {ls' : List (Nat × Value)} (hd : decode cc pc = .ok (.astore i, 2)) (hn : i < nL) (hl : fxS1 i (.ref v) ls = ls') (k : fxR G nL x Q w (pc + 2) ls' st) : fxR G nL x Q w pc ls (.ref v :: st) := by
  obtain ⟨p, e, R, s, m, args, below, meth, c, t0, u0⟩ := x
  obtain ⟨hx, hb, C2⟩ := C
  exact fx_liftS (fun H locs sl cells slots h3 kk => lv_astore hx hb hd h3 hn hl kk) k
theorem r_astore_nN (C : fxC G d cc nL own nm ret hh x) {k0 : Fin 4} {i : Nat} {ls' : List (Nat × Value)} (hd : decode cc pc = .ok (.astore_n k0, 1)) (hi : (k0 : Nat) = i) (hn : i < nL) (hl : fxS1 i .null ls = ls') (k : fxR G nL x Q w (pc + 1) ls' st) : fxR G nL x Q w pc ls (.null :: st) := by
  obtain ⟨p, e, R, s, m, args, below, meth, c, t0, u0⟩ := x
  obtain ⟨hx, hb, C2⟩ := C
  exact fx_liftS (fun H locs sl cells slots h3 kk => lv_astore_nN hx hb hd hi h3 hn hl kk) k
theorem r_astoreN (C : fxC G d cc nL own nm ret hh x) {i : Nat} {ls' : List (Nat × Value)} (hd : decode cc pc = .ok (.astore i, 2)) (hn : i < nL) (hl : fxS1 i .null ls = ls') (k : fxR G nL x Q w (pc + 2) ls' st) : fxR G nL x Q w pc ls (.null :: st) := by
  obtain ⟨p, e, R, s, m, args, below, meth, c, t0, u0⟩ := x
  obtain ⟨hx, hb, C2⟩ := C
  exact fx_liftS (fun H locs sl cells slots h3 kk => lv_astoreN hx hb hd h3 hn hl kk) k
theorem r_iinc (C : fxC G d cc nL own nm ret hh x) {i : Nat} {n : Int} {y v : Int32} {ls' : List (Nat × Value)} (hd : decode cc pc = .ok (.iinc i n, 3)) (hy : fxL ls i = some (.int y)) (hv : y + Int32.ofInt n = v) (hn : i < nL) (hl : fxS1 i (.int v) ls = ls') (k : fxR G nL x Q w (pc + 3) ls' st) : fxR G nL x Q w pc ls st := by
  obtain ⟨p, e, R, s, m, args, below, meth, c, t0, u0⟩ := x
  obtain ⟨hx, hb, C2⟩ := C
  obtain ⟨k9, hk9⟩ := List.getElem?_of_mem (fxL_mem hy)
  exact fx_liftS (fun H locs sl cells slots h3 kk => lv_iinc hx hb hd h3 hk9 hv hn hl kk) k
theorem r_iadd (C : fxC G d cc nL own nm ret hh x) {a b : Int32} (hd : decode cc pc = .ok (.iadd, 1)) (k : fxR G nL x Q w (pc + 1) ls (.int (a + b) :: st)) : fxR G nL x Q w pc ls (.int b :: .int a :: st) := by
  obtain ⟨p, e, R, s, m, args, below, meth, c, t0, u0⟩ := x
  obtain ⟨hx, hb, C2⟩ := C
  exact fx_lift (fun H locs sl cells slots h3 kk => lv_iadd hx hb hd kk) k
theorem r_ladd (C : fxC G d cc nL own nm ret hh x) {a b : Int64} (hd : decode cc pc = .ok (.ladd, 1)) (k : fxR G nL x Q w (pc + 1) ls (.long (a + b) :: st)) : fxR G nL x Q w pc ls (.long b :: .long a :: st) := by
  obtain ⟨p, e, R, s, m, args, below, meth, c, t0, u0⟩ := x
  obtain ⟨hx, hb, C2⟩ := C
  exact fx_lift (fun H locs sl cells slots h3 kk => lv_ladd hx hb hd kk) k
theorem r_isub (C : fxC G d cc nL own nm ret hh x) {a b : Int32} (hd : decode cc pc = .ok (.isub, 1)) (k : fxR G nL x Q w (pc + 1) ls (.int (a - b) :: st)) : fxR G nL x Q w pc ls (.int b :: .int a :: st) := by
  obtain ⟨p, e, R, s, m, args, below, meth, c, t0, u0⟩ := x
  obtain ⟨hx, hb, C2⟩ := C
  exact fx_lift (fun H locs sl cells slots h3 kk => lv_isub hx hb hd kk) k
theorem r_lsub (C : fxC G d cc nL own nm ret hh x) {a b : Int64} (hd : decode cc pc = .ok (.lsub, 1)) (k : fxR G nL x Q w (pc + 1) ls (.long (a - b) :: st)) : fxR G nL x Q w pc ls (.long b :: .long a :: st) := by
  obtain ⟨p, e, R, s, m, args, below, meth, c, t0, u0⟩ := x
  obtain ⟨hx, hb, C2⟩ := C
  exact fx_lift (fun H locs sl cells slots h3 kk => lv_lsub hx hb hd kk) k
theorem r_imul (C : fxC G d cc nL own nm ret hh x) {a b : Int32} (hd : decode cc pc = .ok (.imul, 1)) (k : fxR G nL x Q w (pc + 1) ls (.int (a * b) :: st)) : fxR G nL x Q w pc ls (.int b :: .int a :: st) := by
  obtain ⟨p, e, R, s, m, args, below, meth, c, t0, u0⟩ := x
  obtain ⟨hx, hb, C2⟩ := C
  exact fx_lift (fun H locs sl cells slots h3 kk => lv_imul hx hb hd kk) k
theorem r_lmul (C : fxC G d cc nL own nm ret hh x) {a b : Int64} (hd : decode cc pc = .ok (.lmul, 1)) (k : fxR G nL x Q w (pc + 1) ls (.long (a * b) :: st)) : fxR G nL x Q w pc ls (.long b :: .long a :: st) := by
  obtain ⟨p, e, R, s, m, args, below, meth, c, t0, u0⟩ := x
  obtain ⟨hx, hb, C2⟩ := C
  exact fx_lift (fun H locs sl cells slots h3 kk => lv_lmul hx hb hd kk) k
theorem r_iand (C : fxC G d cc nL own nm ret hh x) {a b : Int32} (hd : decode cc pc = .ok (.iand, 1)) (k : fxR G nL x Q w (pc + 1) ls (.int (a &&& b) :: st)) : fxR G nL x Q w pc ls (.int b :: .int a :: st) := by
  obtain ⟨p, e, R, s, m, args, below, meth, c, t0, u0⟩ := x
  obtain ⟨hx, hb, C2⟩ := C
  exact fx_lift (fun H locs sl cells slots h3 kk => lv_iand hx hb hd kk) k
theorem r_land (C : fxC G d cc nL own nm ret hh x) {a b : Int64} (hd : decode cc pc = .ok (.land, 1)) (k : fxR G nL x Q w (pc + 1) ls (.long (a &&& b) :: st)) : fxR G nL x Q w pc ls (.long b :: .long a :: st) := by
  obtain ⟨p, e, R, s, m, args, below, meth, c, t0, u0⟩ := x
  obtain ⟨hx, hb, C2⟩ := C
  exact fx_lift (fun H locs sl cells slots h3 kk => lv_land hx hb hd kk) k
theorem r_ior (C : fxC G d cc nL own nm ret hh x) {a b : Int32} (hd : decode cc pc = .ok (.ior, 1)) (k : fxR G nL x Q w (pc + 1) ls (.int (a ||| b) :: st)) : fxR G nL x Q w pc ls (.int b :: .int a :: st) := by
  obtain ⟨p, e, R, s, m, args, below, meth, c, t0, u0⟩ := x
  obtain ⟨hx, hb, C2⟩ := C
  exact fx_lift (fun H locs sl cells slots h3 kk => lv_ior hx hb hd kk) k
theorem r_lor (C : fxC G d cc nL own nm ret hh x) {a b : Int64} (hd : decode cc pc = .ok (.lor, 1)) (k : fxR G nL x Q w (pc + 1) ls (.long (a ||| b) :: st)) : fxR G nL x Q w pc ls (.long b :: .long a :: st) := by
  obtain ⟨p, e, R, s, m, args, below, meth, c, t0, u0⟩ := x
  obtain ⟨hx, hb, C2⟩ := C
  exact fx_lift (fun H locs sl cells slots h3 kk => lv_lor hx hb hd kk) k
theorem r_ixor (C : fxC G d cc nL own nm ret hh x) {a b : Int32} (hd : decode cc pc = .ok (.ixor, 1)) (k : fxR G nL x Q w (pc + 1) ls (.int (a ^^^ b) :: st)) : fxR G nL x Q w pc ls (.int b :: .int a :: st) := by
  obtain ⟨p, e, R, s, m, args, below, meth, c, t0, u0⟩ := x
  obtain ⟨hx, hb, C2⟩ := C
  exact fx_lift (fun H locs sl cells slots h3 kk => lv_ixor hx hb hd kk) k
theorem r_lxor (C : fxC G d cc nL own nm ret hh x) {a b : Int64} (hd : decode cc pc = .ok (.lxor, 1)) (k : fxR G nL x Q w (pc + 1) ls (.long (a ^^^ b) :: st)) : fxR G nL x Q w pc ls (.long b :: .long a :: st) := by
  obtain ⟨p, e, R, s, m, args, below, meth, c, t0, u0⟩ := x
  obtain ⟨hx, hb, C2⟩ := C
  exact fx_lift (fun H locs sl cells slots h3 kk => lv_lxor hx hb hd kk) k
theorem r_idiv (C : fxC G d cc nL own nm ret hh x) {a b : Int32} (hd : decode cc pc = .ok (.idiv, 1)) (hne : ¬ b = 0) (k : fxR G nL x Q w (pc + 1) ls (.int (a / b) :: st)) : fxR G nL x Q w pc ls (.int b :: .int a :: st) := by
  obtain ⟨p, e, R, s, m, args, below, meth, c, t0, u0⟩ := x
  obtain ⟨hx, hb, C2⟩ := C
  exact fx_lift (fun H locs sl cells slots h3 kk => lv_idiv hx hb hd hne kk) k
theorem r_irem (C : fxC G d cc nL own nm ret hh x) {a b : Int32} (hd : decode cc pc = .ok (.irem, 1)) (hne : ¬ b = 0) (k : fxR G nL x Q w (pc + 1) ls (.int (a - a / b * b) :: st)) : fxR G nL x Q w pc ls (.int b :: .int a :: st) := by
  obtain ⟨p, e, R, s, m, args, below, meth, c, t0, u0⟩ := x
  obtain ⟨hx, hb, C2⟩ := C
  exact fx_lift (fun H locs sl cells slots h3 kk => lv_irem hx hb hd hne kk) k
theorem r_ldiv (C : fxC G d cc nL own nm ret hh x) {a b : Int64} (hd : decode cc pc = .ok (.ldiv, 1)) (hne : ¬ b = 0) (k : fxR G nL x Q w (pc + 1) ls (.long (a / b) :: st)) : fxR G nL x Q w pc ls (.long b :: .long a :: st) := by
  obtain ⟨p, e, R, s, m, args, below, meth, c, t0, u0⟩ := x
  obtain ⟨hx, hb, C2⟩ := C
  exact fx_lift (fun H locs sl cells slots h3 kk => lv_ldiv hx hb hd hne kk) k
theorem r_lrem (C : fxC G d cc nL own nm ret hh x) {a b : Int64} (hd : decode cc pc = .ok (.lrem, 1)) (hne : ¬ b = 0) (k : fxR G nL x Q w (pc + 1) ls (.long (a - a / b * b) :: st)) : fxR G nL x Q w pc ls (.long b :: .long a :: st) := by
  obtain ⟨p, e, R, s, m, args, below, meth, c, t0, u0⟩ := x
  obtain ⟨hx, hb, C2⟩ := C
  exact fx_lift (fun H locs sl cells slots h3 kk => lv_lrem hx hb hd hne kk) k
theorem r_i2l (C : fxC G d cc nL own nm ret hh x) {a : Int32} {v : Int64} (hd : decode cc pc = .ok (.i2l, 1)) (hv : a.toInt64 = v) (k : fxR G nL x Q w (pc + 1) ls (.long v :: st)) : fxR G nL x Q w pc ls (.int a :: st) := by
  obtain ⟨p, e, R, s, m, args, below, meth, c, t0, u0⟩ := x
  obtain ⟨hx, hb, C2⟩ := C
  exact fx_lift (fun H locs sl cells slots h3 kk => lv_i2l hx hb hd hv kk) k
theorem r_l2i (C : fxC G d cc nL own nm ret hh x) {a : Int64} {v : Int32} (hd : decode cc pc = .ok (.l2i, 1)) (hv : a.toInt32 = v) (k : fxR G nL x Q w (pc + 1) ls (.int v :: st)) : fxR G nL x Q w pc ls (.long a :: st) := by
  obtain ⟨p, e, R, s, m, args, below, meth, c, t0, u0⟩ := x
  obtain ⟨hx, hb, C2⟩ := C
  exact fx_lift (fun H locs sl cells slots h3 kk => lv_l2i hx hb hd hv kk) k
theorem r_i2b (C : fxC G d cc nL own nm ret hh x) {a : Int32} {v : Int32} (hd : decode cc pc = .ok (.i2b, 1)) (hv : a.toInt8.toInt32 = v) (k : fxR G nL x Q w (pc + 1) ls (.int v :: st)) : fxR G nL x Q w pc ls (.int a :: st) := by
  obtain ⟨p, e, R, s, m, args, below, meth, c, t0, u0⟩ := x
  obtain ⟨hx, hb, C2⟩ := C
  exact fx_lift (fun H locs sl cells slots h3 kk => lv_i2b hx hb hd hv kk) k
theorem r_i2s (C : fxC G d cc nL own nm ret hh x) {a : Int32} {v : Int32} (hd : decode cc pc = .ok (.i2s, 1)) (hv : a.toInt16.toInt32 = v) (k : fxR G nL x Q w (pc + 1) ls (.int v :: st)) : fxR G nL x Q w pc ls (.int a :: st) := by
  obtain ⟨p, e, R, s, m, args, below, meth, c, t0, u0⟩ := x
  obtain ⟨hx, hb, C2⟩ := C
  exact fx_lift (fun H locs sl cells slots h3 kk => lv_i2s hx hb hd hv kk) k
theorem r_dup (C : fxC G d cc nL own nm ret hh x) {a : Value} (hd : decode cc pc = .ok (.dup, 1)) (ha : a.category = 1) (k : fxR G nL x Q w (pc + 1) ls (a :: a :: st)) : fxR G nL x Q w pc ls (a :: st) := by
  obtain ⟨p, e, R, s, m, args, below, meth, c, t0, u0⟩ := x
  obtain ⟨hx, hb, C2⟩ := C
  exact fx_lift (fun H locs sl cells slots h3 kk => lv_dup hx hb hd ha kk) k
theorem r_lcmp (C : fxC G d cc nL own nm ret hh x) {a b : Int64} (hd : decode cc pc = .ok (.lcmp, 1)) (k : fxR G nL x Q w (pc + 1) ls (.int (lg_cmp a b) :: st)) : fxR G nL x Q w pc ls (.long b :: .long a :: st) := by
  obtain ⟨p, e, R, s, m, args, below, meth, c, t0, u0⟩ := x
  obtain ⟨hx, hb, C2⟩ := C
  exact fx_lift (fun H locs sl cells slots h3 kk => W.lcmp hx hb hd kk) k
theorem r_if_eq (C : fxC G d cc nL own nm ret hh x) {a : Int32} {off : Int} {tgt : Nat} (hd : decode cc pc = .ok (.ifCond .eq off, 3)) (ht : (pc : Int) + off = (tgt : Int)) (k1 : a = 0 → fxR G nL x Q w tgt ls st) (k2 : ¬ a = 0 → fxR G nL x Q w (pc + 3) ls st) : fxR G nL x Q w pc ls (.int a :: st) := by
  obtain ⟨p, e, R, s, m, args, below, meth, c, t0, u0⟩ := x
  obtain ⟨hx, hb, C2⟩ := C
  exact fx_lift2 (fun H locs sl cells slots q1 q2 => lv_if_eq hx hb hd ht q1 q2) k1 k2
theorem r_icmp_eq (C : fxC G d cc nL own nm ret hh x) {a b : Int32} {off : Int} {tgt : Nat} (hd : decode cc pc = .ok (.if_icmp .eq off, 3)) (ht : (pc : Int) + off = (tgt : Int)) (k1 : a = b → fxR G nL x Q w tgt ls st) (k2 : ¬ a = b → fxR G nL x Q w (pc + 3) ls st) : fxR G nL x Q w pc ls (.int b :: .int a :: st) := by
  obtain ⟨p, e, R, s, m, args, below, meth, c, t0, u0⟩ := x
  obtain ⟨hx, hb, C2⟩ := C
  exact fx_lift2 (fun H locs sl cells slots q1 q2 => lv_icmp_eq hx hb hd ht q1 q2) k1 k2
theorem r_if_ne (C : fxC G d cc nL own nm ret hh x) {a : Int32} {off : Int} {tgt : Nat} (hd : decode cc pc = .ok (.ifCond .ne off, 3)) (ht : (pc : Int) + off = (tgt : Int)) (k1 : ¬ a = 0 → fxR G nL x Q w tgt ls st) (k2 : a = 0 → fxR G nL x Q w (pc + 3) ls st) : fxR G nL x Q w pc ls (.int a :: st) := by
  obtain ⟨p, e, R, s, m, args, below, meth, c, t0, u0⟩ := x
  obtain ⟨hx, hb, C2⟩ := C
  exact fx_lift2 (fun H locs sl cells slots q1 q2 => lv_if_ne hx hb hd ht q1 q2) k1 k2
theorem r_icmp_ne (C : fxC G d cc nL own nm ret hh x) {a b : Int32} {off : Int} {tgt : Nat} (hd : decode cc pc = .ok (.if_icmp .ne off, 3)) (ht : (pc : Int) + off = (tgt : Int)) (k1 : ¬ a = b → fxR G nL x Q w tgt ls st) (k2 : a = b → fxR G nL x Q w (pc + 3) ls st) : fxR G nL x Q w pc ls (.int b :: .int a :: st) := by
  obtain ⟨p, e, R, s, m, args, below, meth, c, t0, u0⟩ := x
  obtain ⟨hx, hb, C2⟩ := C
  exact fx_lift2 (fun H locs sl cells slots q1 q2 => lv_icmp_ne hx hb hd ht q1 q2) k1 k2
theorem r_if_lt (C : fxC G d cc nL own nm ret hh x) {a : Int32} {off : Int} {tgt : Nat} (hd : decode cc pc = .ok (.ifCond .lt off, 3)) (ht : (pc : Int) + off = (tgt : Int)) (k1 : a < 0 → fxR G nL x Q w tgt ls st) (k2 : ¬ a < 0 → fxR G nL x Q w (pc + 3) ls st) : fxR G nL x Q w pc ls (.int a :: st) := by
  obtain ⟨p, e, R, s, m, args, below, meth, c, t0, u0⟩ := x
  obtain ⟨hx, hb, C2⟩ := C
  exact fx_lift2 (fun H locs sl cells slots q1 q2 => lv_if_lt hx hb hd ht q1 q2) k1 k2
theorem r_icmp_lt (C : fxC G d cc nL own nm ret hh x) {a b : Int32} {off : Int} {tgt : Nat} (hd : decode cc pc = .ok (.if_icmp .lt off, 3)) (ht : (pc : Int) + off = (tgt : Int)) (k1 : a < b → fxR G nL x Q w tgt ls st) (k2 : ¬ a < b → fxR G nL x Q w (pc + 3) ls st) : fxR G nL x Q w pc ls (.int b :: .int a :: st) := by
  obtain ⟨p, e, R, s, m, args, below, meth, c, t0, u0⟩ := x
  obtain ⟨hx, hb, C2⟩ := C
  exact fx_lift2 (fun H locs sl cells slots q1 q2 => lv_icmp_lt hx hb hd ht q1 q2) k1 k2
theorem r_if_ge (C : fxC G d cc nL own nm ret hh x) {a : Int32} {off : Int} {tgt : Nat} (hd : decode cc pc = .ok (.ifCond .ge off, 3)) (ht : (pc : Int) + off = (tgt : Int)) (k1 : 0 ≤ a → fxR G nL x Q w tgt ls st) (k2 : ¬ 0 ≤ a → fxR G nL x Q w (pc + 3) ls st) : fxR G nL x Q w pc ls (.int a :: st) := by
  obtain ⟨p, e, R, s, m, args, below, meth, c, t0, u0⟩ := x
  obtain ⟨hx, hb, C2⟩ := C
  exact fx_lift2 (fun H locs sl cells slots q1 q2 => lv_if_ge hx hb hd ht q1 q2) k1 k2
theorem r_icmp_ge (C : fxC G d cc nL own nm ret hh x) {a b : Int32} {off : Int} {tgt : Nat} (hd : decode cc pc = .ok (.if_icmp .ge off, 3)) (ht : (pc : Int) + off = (tgt : Int)) (k1 : b ≤ a → fxR G nL x Q w tgt ls st) (k2 : ¬ b ≤ a → fxR G nL x Q w (pc + 3) ls st) : fxR G nL x Q w pc ls (.int b :: .int a :: st) := by
  obtain ⟨p, e, R, s, m, args, below, meth, c, t0, u0⟩ := x
  obtain ⟨hx, hb, C2⟩ := C
  exact fx_lift2 (fun H locs sl cells slots q1 q2 => lv_icmp_ge hx hb hd ht q1 q2) k1 k2
theorem r_if_gt (C : fxC G d cc nL own nm ret hh x) {a : Int32} {off : Int} {tgt : Nat} (hd : decode cc pc = .ok (.ifCond .gt off, 3)) (ht : (pc : Int) + off = (tgt : Int)) (k1 : 0 < a → fxR G nL x Q w tgt ls st) (k2 : ¬ 0 < a → fxR G nL x Q w (pc + 3) ls st) : fxR G nL x Q w pc ls (.int a :: st) := by
  obtain ⟨p, e, R, s, m, args, below, meth, c, t0, u0⟩ := x
  obtain ⟨hx, hb, C2⟩ := C
  exact fx_lift2 (fun H locs sl cells slots q1 q2 => lv_if_gt hx hb hd ht q1 q2) k1 k2
theorem r_icmp_gt (C : fxC G d cc nL own nm ret hh x) {a b : Int32} {off : Int} {tgt : Nat} (hd : decode cc pc = .ok (.if_icmp .gt off, 3)) (ht : (pc : Int) + off = (tgt : Int)) (k1 : b < a → fxR G nL x Q w tgt ls st) (k2 : ¬ b < a → fxR G nL x Q w (pc + 3) ls st) : fxR G nL x Q w pc ls (.int b :: .int a :: st) := by
  obtain ⟨p, e, R, s, m, args, below, meth, c, t0, u0⟩ := x
  obtain ⟨hx, hb, C2⟩ := C
  exact fx_lift2 (fun H locs sl cells slots q1 q2 => lv_icmp_gt hx hb hd ht q1 q2) k1 k2
theorem r_if_le (C : fxC G d cc nL own nm ret hh x) {a : Int32} {off : Int} {tgt : Nat} (hd : decode cc pc = .ok (.ifCond .le off, 3)) (ht : (pc : Int) + off = (tgt : Int)) (k1 : a ≤ 0 → fxR G nL x Q w tgt ls st) (k2 : ¬ a ≤ 0 → fxR G nL x Q w (pc + 3) ls st) : fxR G nL x Q w pc ls (.int a :: st) := by
  obtain ⟨p, e, R, s, m, args, below, meth, c, t0, u0⟩ := x
  obtain ⟨hx, hb, C2⟩ := C
  exact fx_lift2 (fun H locs sl cells slots q1 q2 => lv_if_le hx hb hd ht q1 q2) k1 k2
theorem r_icmp_le (C : fxC G d cc nL own nm ret hh x) {a b : Int32} {off : Int} {tgt : Nat} (hd : decode cc pc = .ok (.if_icmp .le off, 3)) (ht : (pc : Int) + off = (tgt : Int)) (k1 : a ≤ b → fxR G nL x Q w tgt ls st) (k2 : ¬ a ≤ b → fxR G nL x Q w (pc + 3) ls st) : fxR G nL x Q w pc ls (.int b :: .int a :: st) := by
  obtain ⟨p, e, R, s, m, args, below, meth, c, t0, u0⟩ := x
  obtain ⟨hx, hb, C2⟩ := C
  exact fx_lift2 (fun H locs sl cells slots q1 q2 => lv_icmp_le hx hb hd ht q1 q2) k1 k2
theorem r_acmp_eq (C : fxC G d cc nL own nm ret hh x) {ra rb : Option Nat} {off : Int} {tgt : Nat} (hd : decode cc pc = .ok (.if_acmp .eq off, 3)) (ht : (pc : Int) + off = (tgt : Int)) (k1 : ra = rb → fxR G nL x Q w tgt ls st) (k2 : ¬ ra = rb → fxR G nL x Q w (pc + 3) ls st) : fxR G nL x Q w pc ls (va_rf rb :: va_rf ra :: st) := by
  obtain ⟨p, e, R, s, m, args, below, meth, c, t0, u0⟩ := x
  obtain ⟨hx, hb, C2⟩ := C
  exact fx_lift2 (fun H locs sl cells slots q1 q2 => lv_acmp_eq hx hb hd ht q1 q2) k1 k2
theorem r_acmp_ne (C : fxC G d cc nL own nm ret hh x) {ra rb : Option Nat} {off : Int} {tgt : Nat} (hd : decode cc pc = .ok (.if_acmp .ne off, 3)) (ht : (pc : Int) + off = (tgt : Int)) (k1 : ¬ ra = rb → fxR G nL x Q w tgt ls st) (k2 : ra = rb → fxR G nL x Q w (pc + 3) ls st) : fxR G nL x Q w pc ls (va_rf rb :: va_rf ra :: st) := by
  obtain ⟨p, e, R, s, m, args, below, meth, c, t0, u0⟩ := x
  obtain ⟨hx, hb, C2⟩ := C
  exact fx_lift2 (fun H locs sl cells slots q1 q2 => lv_acmp_ne hx hb hd ht q1 q2) k1 k2
theorem r_goto (C : fxC G d cc nL own nm ret hh x) {off : Int} {tgt : Nat} (hd : decode cc pc = .ok (.goto off, 3)) (ht : (pc : Int) + off = (tgt : Int)) (k : fxR G nL x Q w tgt ls st) : fxR G nL x Q w pc ls st := by
  obtain ⟨p, e, R, s, m, args, below, meth, c, t0, u0⟩ := x
  obtain ⟨hx, hb, C2⟩ := C
  exact fx_lift (fun H locs sl cells slots h3 kk => lv_goto hx hb hd ht kk) k
theorem r_ifnonnull (C : fxC G d cc nL own nm ret hh x) {a : Nat} {off : Int} {tgt : Nat} (hd : decode cc pc = .ok (.ifnonnull off, 3)) (ht : (pc : Int) + off = (tgt : Int)) (k : fxR G nL x Q w tgt ls st) : fxR G nL x Q w pc ls (.ref a :: st) := by
  obtain ⟨p, e, R, s, m, args, below, meth, c, t0, u0⟩ := x
  obtain ⟨hx, hb, C2⟩ := C
  exact fx_lift (fun H locs sl cells slots h3 kk => lv_ifnonnull hx hb hd ht kk) k
theorem r_ifnonnullN (C : fxC G d cc nL own nm ret hh x) {off : Int} (hd : decode cc pc = .ok (.ifnonnull off, 3)) (k : fxR G nL x Q w (pc + 3) ls st) : fxR G nL x Q w pc ls (.null :: st) := by
  obtain ⟨p, e, R, s, m, args, below, meth, c, t0, u0⟩ := x
  obtain ⟨hx, hb, C2⟩ := C
  exact fx_lift (fun H locs sl cells slots h3 kk => lv_ifnonnullN hx hb hd kk) k
theorem r_ifnull (C : fxC G d cc nL own nm ret hh x) {a : Nat} {off : Int} (hd : decode cc pc = .ok (.ifnull off, 3)) (k : fxR G nL x Q w (pc + 3) ls st) : fxR G nL x Q w pc ls (.ref a :: st) := by
  obtain ⟨p, e, R, s, m, args, below, meth, c, t0, u0⟩ := x
  obtain ⟨hx, hb, C2⟩ := C
  exact fx_lift (fun H locs sl cells slots h3 kk => lv_ifnull hx hb hd kk) k
theorem r_ifnullN (C : fxC G d cc nL own nm ret hh x) {off : Int} {tgt : Nat} (hd : decode cc pc = .ok (.ifnull off, 3)) (ht : (pc : Int) + off = (tgt : Int)) (k : fxR G nL x Q w tgt ls st) : fxR G nL x Q w pc ls (.null :: st) := by
  obtain ⟨p, e, R, s, m, args, below, meth, c, t0, u0⟩ := x
  obtain ⟨hx, hb, C2⟩ := C
  exact fx_lift (fun H locs sl cells slots h3 kk => lv_ifnullN hx hb hd ht kk) k
theorem r_tableOut (C : fxC G d cc nL own nm ret hh x) {dflt lo hi : Int} {offs : Array Int} {len : Nat} {a : Int32} {tgt : Nat} (hd : decode cc pc = .ok (.tableswitch dflt lo hi offs, len)) (h : a.toInt < lo ∨ hi < a.toInt) (ht : (pc : Int) + dflt = (tgt : Int)) (k : fxR G nL x Q w tgt ls st) : fxR G nL x Q w pc ls (.int a :: st) := by
  obtain ⟨p, e, R, s, m, args, below, meth, c, t0, u0⟩ := x
  obtain ⟨hx, hb, C2⟩ := C
  exact fx_lift (fun H locs sl cells slots h3 kk => lv_tableOut hx hb hd h ht kk) k
theorem r_tableIn (C : fxC G d cc nL own nm ret hh x) {dflt lo hi : Int} {offs : Array Int} {len : Nat} {a : Int32} {off : Int} {tgt : Nat} (hd : decode cc pc = .ok (.tableswitch dflt lo hi offs, len)) (h1 : ¬ a.toInt < lo) (h2 : ¬ hi < a.toInt) (ho : offs[(a.toInt - lo).toNat]? = some off) (ht : (pc : Int) + off = (tgt : Int)) (k : fxR G nL x Q w tgt ls st) : fxR G nL x Q w pc ls (.int a :: st) := by
  obtain ⟨p, e, R, s, m, args, below, meth, c, t0, u0⟩ := x
  obtain ⟨hx, hb, C2⟩ := C
  exact fx_lift (fun H locs sl cells slots h3 kk => lv_tableIn hx hb hd h1 h2 ho ht kk) k
theorem r_lookup (C : fxC G d cc nL own nm ret hh x) {dflt : Int} {ps : Array (Int × Int)} {len : Nat} {a : Int32} {off : Int} {tgt : Nat} (hd : decode cc pc = .ok (.lookupswitch dflt ps, len)) (hp : (ps.toList.zip (ps.toList.drop 1)).all (fun (a, next) => a.1 < next.1) = true) (ho : Op.lookupswitch.offset ps.toList dflt a.toInt = off) (ht : (pc : Int) + off = (tgt : Int)) (k : fxR G nL x Q w tgt ls st) : fxR G nL x Q w pc ls (.int a :: st) := by
  obtain ⟨p, e, R, s, m, args, below, meth, c, t0, u0⟩ := x
  obtain ⟨hx, hb, C2⟩ := C
  exact fx_lift (fun H locs sl cells slots h3 kk => lv_lookup hx hb hd hp ho ht kk) k
end FX
end
section
/-! ROWS OVER THE HEAP -/
def fxQ (G : fxG) (x : fxX) (P : Outcome → fxW → Prop) : State → Prop :=
  match x with
  | (_, _, _, s, _, _, below, _, _, t0, u0) => fun t => ∃ o, t.status = .running ∧ Ended t below o ∧ fxE G t0 u0 P s o t
theorem fxH.obj {G : fxG} {w : fxW} {H : Heap} {a c n : Nat} (h : fxH G w H) (hk : fxk w a = some (c, n)) (hc : c < 100) : fxb G ≤ a ∧ ∃ r : vw_C, fxCl[c]? = some r ∧ t_OB a ((fxD G).1 c) r.2.2 ((fxD G).2 c) H (fun k => fxf w (64 * c + k) a) := by
  rcases h.2.2.2.2.2 a c n hk with ⟨-, h1, h2⟩ | ⟨t, ty, -, h1, -⟩
  · exact ⟨h1, h2⟩
  · omega
theorem fxH.arr {G : fxG} {w : fxW} {H : Heap} {a t n : Nat} (h : fxH G w H) (ht : t < 100) (hk : fxk w a = some (100 + t, n)) : fxb G ≤ a ∧ ∃ ty : FieldType, fxAr[t]? = some ty ∧ H[a]? = some (arrV (fxA G t) n (fun j => fxe w t a j)) := by
  rcases h.2.2.2.2.2 a _ n hk with ⟨h0, -⟩ | ⟨t', ty, h0, h1, h2, h3⟩
  · omega
  · rcases h1 with ⟨h1, h4⟩ | h1
    · have e : t = t' := by omega
      subst e
      exact ⟨h4, ty, h2, h3⟩
    · omega
theorem fxH.rarr {G : fxG} {w : fxW} {H : Heap} {a t n : Nat} (h : fxH G w H) (ht : t < 100) (hk : fxk w a = some (100 + t, n) ∨ fxk w a = some (200 + t, n)) : ∃ ty : FieldType, fxAr[t]? = some ty ∧ H[a]? = some (arrV (fxA G t) n (fun j => fxe w t a j)) := by
  rcases hk with hk | hk
  · exact (h.arr ht hk).2
  · rcases h.2.2.2.2.2 a _ n hk with ⟨h0, -⟩ | ⟨t', ty, h0, h1, h2, h3⟩
    · omega
    · rcases h1 with ⟨h1, h4⟩ | h1
      · omega
      · have e : t = t' := by omega
        subst e
        exact ⟨ty, h2, h3⟩
theorem fxH.lt {G : fxG} {w : fxW} {H : Heap} {a : Nat} {q : Nat × Nat} (h : fxH G w H) (hk : fxk w a = some q) : a < fxt w := by
  obtain ⟨c, n⟩ := q
  rw [← h.1]
  rcases h.2.2.2.2.2 a c n hk with ⟨-, -, r, -, cell, h1, -⟩ | ⟨t, ty, -, -, -, h1⟩
  · exact (Array.getElem?_eq_some_iff.mp h1).1
  · exact (Array.getElem?_eq_some_iff.mp h1).1
theorem fxH.put {G : fxG} {w : fxW} {H H' : Heap} {a c n k0 : Nat} {v : Value} (h : fxH G w H) (hk : fxk w a = some (c, n)) (hc : c < 100) (hz : H'.size = H.size) (ho : ∀ q : Nat, q ≠ a → H'[q]? = H[q]?)
    (hn : ∀ r : vw_C, fxCl[c]? = some r → t_OB a ((fxD G).1 c) r.2.2 ((fxD G).2 c) H' (updV (fun k => fxf w (64 * c + k) a) k0 v)) : fxH G (fx_put w (64 * c + k0) a v) H' := by
  obtain ⟨hba, r, hr, -⟩ := h.obj hk hc
  refine ⟨hz.trans h.1, fun q hq => (ho q (by omega)).trans (h.2.1 q hq), h.2.2.1, h.2.2.2.1, h.2.2.2.2.1, fun b c' n' hb => ?_⟩
  have hb' : fxk w b = some (c', n') := hb
  by_cases hab : b = a
  · subst hab
    cases hb'.symm.trans hk
    refine Or.inl ⟨hc, hba, r, hr, (hn r hr).to fun k _ => ?_⟩
    show updV _ k0 v k = (if 64 * c + k = 64 * c + k0 then (if b = b then v else w.2.1 (64 * c + k) b) else w.2.1 (64 * c + k) b)
    by_cases hkk : k = k0
    · subst hkk; simp [updV]
    · rw [if_neg (by omega)]; simp [updV, hkk]; rfl
  · rcases h.2.2.2.2.2 b c' n' hb' with ⟨h1, h2, r', h3, h4⟩ | ⟨t, ty, h1, h2, h3, h4⟩
    · refine Or.inl ⟨h1, h2, r', h3, (h4.kept (ho b hab)).to fun k _ => ?_⟩
      show w.2.1 (64 * c' + k) b = (if 64 * c' + k = 64 * c + k0 then (if b = a then v else w.2.1 (64 * c' + k) b) else w.2.1 (64 * c' + k) b)
      simp [hab]
    · exact Or.inr ⟨t, ty, h1, h2, h3, (ho b hab).trans h4⟩
theorem fxH.ast {G : fxG} {w : fxW} {H H' : Heap} {a t n j : Nat} {v : Value} (h : fxH G w H) (ht : t < 100) (hk : fxk w a = some (100 + t, n)) (hz : H'.size = H.size) (ho : ∀ q : Nat, q ≠ a → H'[q]? = H[q]?)
    (hn : H'[a]? = some (arrV (fxA G t) n (updV (fun j => fxe w t a j) j v))) : fxH G (fx_ast w t a j v) H' := by
  obtain ⟨hba, ty, hty, -⟩ := h.arr ht hk
  refine ⟨hz.trans h.1, fun q hq => (ho q (by omega)).trans (h.2.1 q hq), h.2.2.1, h.2.2.2.1, h.2.2.2.2.1, fun b c' n' hb => ?_⟩
  have hb' : fxk w b = some (c', n') := hb
  by_cases hab : b = a
  · subst hab
    cases hb'.symm.trans hk
    refine Or.inr ⟨t, ty, ht, Or.inl ⟨rfl, hba⟩, hty, hn.trans ?_⟩
    congr 2
    funext i
    show updV _ j v i = (if t = t then (if b = b then (if i = j then v else w.2.2.1 t b i) else w.2.2.1 t b i) else w.2.2.1 t b i)
    by_cases hij : i = j
    · subst hij; simp [updV]
    · simp [updV, hij]; rfl
  · rcases h.2.2.2.2.2 b c' n' hb' with ⟨h1, h2, r', h3, h4⟩ | ⟨t', ty', h1, h2, h3, h4⟩
    · exact Or.inl ⟨h1, h2, r', h3, h4.kept (ho b hab)⟩
    · refine Or.inr ⟨t', ty', h1, h2, h3, ((ho b hab).trans h4).trans ?_⟩
      congr 2
      funext i
      show w.2.2.1 t' b i = (if t' = t then (if b = a then (if i = j then v else w.2.2.1 t' b i) else w.2.2.1 t' b i) else w.2.2.1 t' b i)
      simp [hab]
theorem fxH.new {G : fxG} {w : fxW} {H H' : Heap} {c n : Nat} {z : Nat → Value} (h : fxH G w H) (hc : c < 100) (hz : H'.size = fxt w + 1) (ho : ∀ q : Nat, q < fxt w → H'[q]? = H[q]?) (h1 : fxt w + 1 ≤ fxmt G) (h2 : fxu w + n ≤ fxmu G)
    (hn : ∃ r : vw_C, fxCl[c]? = some r ∧ t_OB (fxt w) ((fxD G).1 c) r.2.2 ((fxD G).2 c) H' z) : fxH G (fx_new w c n z) H' := by
  obtain ⟨r, hr, hob⟩ := hn
  have hbt := h.2.2.1
  refine ⟨hz, fun q hq => (ho q (by omega)).trans (h.2.1 q hq), by show fxb G ≤ fxt w + 1; omega, h1, h2, fun b c' n' hb => ?_⟩
  have hb' : (if b = fxt w then some (c, 0) else fxk w b) = some (c', n') := hb
  by_cases hab : b = fxt w
  · rw [if_pos hab] at hb'
    cases hb'
    subst hab
    refine Or.inl ⟨hc, hbt, r, hr, hob.to fun k _ => ?_⟩
    show z k = (if fxt w = fxt w then (if 64 * c ≤ 64 * c + k then z (64 * c + k - 64 * c) else _) else _)
    simp
  · rw [if_neg hab] at hb'
    have hlt := h.lt hb'
    rcases h.2.2.2.2.2 b c' n' hb' with ⟨h1, h2, r', h3, h4⟩ | ⟨t', ty', h1, h2, h3, h4⟩
    · refine Or.inl ⟨h1, h2, r', h3, (h4.kept (ho b hlt)).to fun k _ => ?_⟩
      show w.2.1 (64 * c' + k) b = (if b = fxt w then _ else w.2.1 (64 * c' + k) b)
      rw [if_neg hab]
    · exact Or.inr ⟨t', ty', h1, h2, h3, (ho b hlt).trans h4⟩
theorem fxH.newa {G : fxG} {w : fxW} {H H' : Heap} {t n : Nat} {z : Value} {ty : FieldType} (h : fxH G w H) (ht : t < 100) (hty : fxAr[t]? = some ty) (hz : H'.size = fxt w + 1) (ho : ∀ q : Nat, q < fxt w → H'[q]? = H[q]?) (h1 : fxt w + 1 ≤ fxmt G) (h2 : fxu w + n ≤ fxmu G)
    (hn : H'[fxt w]? = some (arrV (fxA G t) n (fun _ => z))) : fxH G (fx_newa w t n z) H' := by
  have hbt := h.2.2.1
  refine ⟨hz, fun q hq => (ho q (by omega)).trans (h.2.1 q hq), by show fxb G ≤ fxt w + 1; omega, h1, h2, fun b c' n' hb => ?_⟩
  have hb' : (if b = fxt w then some (100 + t, n) else fxk w b) = some (c', n') := hb
  by_cases hab : b = fxt w
  · rw [if_pos hab] at hb'
    cases hb'
    subst hab
    refine Or.inr ⟨t, ty, ht, Or.inl ⟨rfl, hbt⟩, hty, hn.trans ?_⟩
    congr 2
    funext i
    show z = (if fxt w = fxt w then z else _)
    simp
  · rw [if_neg hab] at hb'
    have hlt := h.lt hb'
    rcases h.2.2.2.2.2 b c' n' hb' with ⟨h1, h2, r', h3, h4⟩ | ⟨t', ty', h1, h2, h3, h4⟩
    · exact Or.inl ⟨h1, h2, r', h3, h4.kept (ho b hlt)⟩
    · refine Or.inr ⟨t', ty', h1, h2, h3, ((ho b hlt).trans h4).trans ?_⟩
      congr 2
      funext i
      show w.2.2.1 t' b i = (if b = fxt w then z else w.2.2.1 t' b i)
      rw [if_neg hab]
section FXH
variable {G : fxG} {d nL : Nat} {cc : ByteArray} {own nm : String} {ret : Option FieldType} {hh : List (Nat × Nat × Nat × Nat)} {x : fxX} {Q : State → Prop} {w : fxW} {pc : Nat} {ls : List (Nat × Value)} {st : List Value}
/-- what the tables say of a field reference: its class is the declarer, or the two names are of one field -/
def fxSame (ref decl name desc : String) : Prop := ref = decl ∨ Cond.sameField ref decl name desc ∈ fxTW
theorem fxSame.use {ref decl name desc : String} (h : fxSame ref decl name desc) {args : Array Value} {s : State} (hts : ∀ w ∈ fxTW, w.before args s = true) : ∀ y, s.fieldFound? decl name desc = some y → s.fieldFound? ref name desc = some y := by
  intro y hy
  rcases h with rfl | h
  · exact hy
  · exact u_same (hts _ h) y hy
theorem r_get (C : fxC G d cc nL own nm ret hh x) {Cn ref : String} {T : u_T} {N ci idx k0 a n : Nat} {v : Value} (hd : decode cc pc = .ok (.getfield idx, 3)) (hc : fxCl[ci]? = some (Cn, T, N)) (hci : ci < 100) (hws : ∀ w ∈ u_ws Cn T N, w ∈ fxTW) (hk : k0 < N) (hl : Cond.fieldLink own idx ref (T k0).2.1 (T k0).2.2.1 ∈ fxTW) (hs : fxSame ref (T k0).1 (T k0).2.1 (T k0).2.2.1)
    (ha : fxk w a = some (ci, n)) (hv : fxf w (64 * ci + k0) a = v) (k : fxR G nL x Q w (pc + 3) ls (v :: st)) : fxR G nL x Q w pc ls (.ref a :: st) := by
  obtain ⟨p, e, R, s, m, args, below, meth, c, t0, u0⟩ := x
  obtain ⟨hx, hb, hml, hown, hts, hV, C2⟩ := C
  intro H locs sl cells slots h1 h2 h3 h4 h5
  obtain ⟨-, r, hr, cell, q1, q2, q3, q4⟩ := h1.obj ha hci
  cases hr.symm.trans hc
  obtain ⟨hS, hfc, kC, hkC, hkind⟩ := hV.1.1 ci _ hc
  obtain ⟨cf, kf, fi, f, hi, hsl⟩ := hS k0 hk
  exact W.getf hx hb hown (hts _ hl) (hs.use hts _ hi) (u_facts hfc hkC (u_lays hts hws hk) hi).1 q1 (by rw [q3]; exact fun h => by cases h) (v := v) (by rw [hsl, q4 k0 hk]; exact congrArg some hv) rfl rfl hd (k H locs sl cells slots h1 h2 h3 h4 h5)
theorem r_getN (C : fxC G d cc nL own nm ret hh x) {Cn ref host : String} {T : u_T} {N ci idx k0 a n : Nat} {v : Value} (hd : decode cc pc = .ok (.getfield idx, 3)) (hc : fxCl[ci]? = some (Cn, T, N)) (hci : ci < 100) (hws : ∀ w ∈ u_ws Cn T N, w ∈ fxTW) (hk : k0 < N) (hl : Cond.fieldLinkNest own idx ref (T k0).2.1 (T k0).2.2.1 host ∈ fxTW) (hs : fxSame ref (T k0).1 (T k0).2.1 (T k0).2.2.1)
    (ha : fxk w a = some (ci, n)) (hv : fxf w (64 * ci + k0) a = v) (k : fxR G nL x Q w (pc + 3) ls (v :: st)) : fxR G nL x Q w pc ls (.ref a :: st) := by
  obtain ⟨p, e, R, s, m, args, below, meth, c, t0, u0⟩ := x
  obtain ⟨hx, hb, hml, hown, hts, hV, C2⟩ := C
  intro H locs sl cells slots h1 h2 h3 h4 h5
  obtain ⟨-, r, hr, cell, q1, q2, q3, q4⟩ := h1.obj ha hci
  cases hr.symm.trans hc
  obtain ⟨hS, hfc, kC, hkC, hkind⟩ := hV.1.1 ci _ hc
  obtain ⟨cf, kf, fi, f, hi, hsl⟩ := hS k0 hk
  exact va_Wgetf hx hb hown (hts _ hl) (hs.use hts _ hi) (u_facts hfc hkC (u_lays hts hws hk) hi).1 q1 (by rw [q3]; exact fun h => by cases h) (v := v) (by rw [hsl, q4 k0 hk]; exact congrArg some hv) rfl rfl hd (k H locs sl cells slots h1 h2 h3 h4 h5)
theorem fx_locs {G : fxG} {locs : List Loc} {a i : Nat} (h : ∀ q ∈ locs, fxb G ≤ q.base) (ha : fxb G ≤ a) : ∀ q ∈ locs ++ [⟨a, i⟩], fxb G ≤ q.base := by
  intro q hq
  rcases List.mem_append.mp hq with h1 | h1
  · exact h q h1
  · rw [List.mem_singleton.mp h1]; exact ha
theorem r_put (C : fxC G d cc nL own nm ret hh x) {Cn ref : String} {T : u_T} {N ci idx k0 a n : Nat} {ty : FieldType} {v : Value} (hd : decode cc pc = .ok (.putfield idx, 3)) (hc : fxCl[ci]? = some (Cn, T, N)) (hci : ci < 100) (hws : ∀ w ∈ u_ws Cn T N, w ∈ fxTW) (tys : Nat → FieldType) (hty : ∀ k, k < N → parseFieldDescriptor (T k).2.2.1 = some (tys k)) (hnm : ∀ a, a < N → ∀ b, b < N → a ≠ b → (T a).2.1 ≠ (T b).2.1) (hk : k0 < N) (hl : Cond.fieldLink own idx ref (T k0).2.1 (T k0).2.2.1 ∈ fxTW) (hs : fxSame ref (T k0).1 (T k0).2.1 (T k0).2.2.1) (hfin : (T k0).2.2.2 = false)
    (hpd : parseFieldDescriptor (T k0).2.2.1 = some ty) (hn : narrow ty v = v) (hfit : fits ty v = true) (ha : fxk w a = some (ci, n)) (k : fxR G nL x Q (fx_put w (64 * ci + k0) a v) (pc + 3) ls st) : fxR G nL x Q w pc ls (v :: .ref a :: st) := by
  obtain ⟨p, e, R, s, m, args, below, meth, c, t0, u0⟩ := x
  obtain ⟨hx, hb, hml, hown, hts, hV, C2⟩ := C
  intro H locs sl cells slots h1 h2 h3 h4 h5
  have hap := va_apart (own := own) hts hws tys hty hnm hV.1 hc
  obtain ⟨hba, r, hr, cell, q1, q2, q3, q4⟩ := h1.obj ha hci
  cases hr.symm.trans hc
  obtain ⟨hS, hfc, kC, hkC, hkind⟩ := hV.1.1 ci _ hc
  obtain ⟨cf, kf, fi, f, hi, hsl⟩ := hS k0 hk
  have hlay := hts _ (hws _ (u_in_lay hk))
  unfold u_lay at hlay
  rw [if_neg (by rw [hfin]; decide)] at hlay
  have hst := (u_facts hfc hkC (u_lays hts hws hk) hi).1
  have h6 := u_store hfc hkC hkind hlay hi hpd hn hfit
  refine W.putK hx hb (f := f) ⟨hown, hts _ hl, ⟨_, _, _, hs.use hts _ hi⟩, hst⟩ (by rw [q2]; exact h6) q1 q3 (by rw [hsl]; exact k2_hasslot (q4 k0 hk)) rfl rfl hd fun H' e1 e2 e3 => ?_
  rw [hsl] at e1 ⊢
  exact k H' _ sl cells slots (h1.put ha hci e2 e3 fun r' hr' => by cases hr'.symm.trans hc; exact ⟨_, e1, q2, q3, t_set q4 hap hk v⟩) (fx_locs h2 hba) h3 h4 h5
theorem r_putN (C : fxC G d cc nL own nm ret hh x) {Cn ref host : String} {T : u_T} {N ci idx k0 a n : Nat} {ty : FieldType} {v : Value} (hd : decode cc pc = .ok (.putfield idx, 3)) (hc : fxCl[ci]? = some (Cn, T, N)) (hci : ci < 100) (hws : ∀ w ∈ u_ws Cn T N, w ∈ fxTW) (tys : Nat → FieldType) (hty : ∀ k, k < N → parseFieldDescriptor (T k).2.2.1 = some (tys k)) (hnm : ∀ a, a < N → ∀ b, b < N → a ≠ b → (T a).2.1 ≠ (T b).2.1) (hk : k0 < N) (hl : Cond.fieldLinkNest own idx ref (T k0).2.1 (T k0).2.2.1 host ∈ fxTW) (hs : fxSame ref (T k0).1 (T k0).2.1 (T k0).2.2.1) (hfin : (T k0).2.2.2 = false)
    (hpd : parseFieldDescriptor (T k0).2.2.1 = some ty) (hn : narrow ty v = v) (hfit : fits ty v = true) (ha : fxk w a = some (ci, n)) (k : fxR G nL x Q (fx_put w (64 * ci + k0) a v) (pc + 3) ls st) : fxR G nL x Q w pc ls (v :: .ref a :: st) := by
  obtain ⟨p, e, R, s, m, args, below, meth, c, t0, u0⟩ := x
  obtain ⟨hx, hb, hml, hown, hts, hV, C2⟩ := C
  intro H locs sl cells slots h1 h2 h3 h4 h5
  have hap := va_apart (own := own) hts hws tys hty hnm hV.1 hc
  obtain ⟨hba, r, hr, cell, q1, q2, q3, q4⟩ := h1.obj ha hci
  cases hr.symm.trans hc
  obtain ⟨hS, hfc, kC, hkC, hkind⟩ := hV.1.1 ci _ hc
  obtain ⟨cf, kf, fi, f, hi, hsl⟩ := hS k0 hk
  have hlay := hts _ (hws _ (u_in_lay hk))
  unfold u_lay at hlay
  rw [if_neg (by rw [hfin]; decide)] at hlay
  have hst := (u_facts hfc hkC (u_lays hts hws hk) hi).1
  have h6 := u_store hfc hkC hkind hlay hi hpd hn hfit
  refine va_WputK hx hb (f := f) hown (hts _ hl) (hs.use hts _ hi) hst (by rw [q2]; exact h6) q1 q3 (by rw [hsl]; exact k2_hasslot (q4 k0 hk)) rfl rfl hd fun H' e1 e2 e3 => ?_
  rw [hsl] at e1 ⊢
  exact k H' _ sl cells slots (h1.put ha hci e2 e3 fun r' hr' => by cases hr'.symm.trans hc; exact ⟨_, e1, q2, q3, t_set q4 hap hk v⟩) (fx_locs h2 hba) h3 h4 h5
theorem r_putF (C : fxC G d cc nL own "<init>" ret hh x) {Cn ref : String} {T : u_T} {N ci idx k0 a n : Nat} {ty : FieldType} {v : Value} (hd : decode cc pc = .ok (.putfield idx, 3)) (hc : fxCl[ci]? = some (Cn, T, N)) (hci : ci < 100) (hws : ∀ w ∈ u_ws Cn T N, w ∈ fxTW) (tys : Nat → FieldType) (hty : ∀ k, k < N → parseFieldDescriptor (T k).2.2.1 = some (tys k)) (hnm : ∀ a, a < N → ∀ b, b < N → a ≠ b → (T a).2.1 ≠ (T b).2.1) (hk : k0 < N) (hl : Cond.fieldLink own idx ref (T k0).2.1 (T k0).2.2.1 ∈ fxTW) (hs : fxSame ref (T k0).1 (T k0).2.1 (T k0).2.2.1) (hfin : (T k0).2.2.2 = true) (hdecl : (T k0).1 = own)
    (hpd : parseFieldDescriptor (T k0).2.2.1 = some ty) (hn : narrow ty v = v) (hfit : fits ty v = true) (ha : fxk w a = some (ci, n)) (k : fxR G nL x Q (fx_put w (64 * ci + k0) a v) (pc + 3) ls st) : fxR G nL x Q w pc ls (v :: .ref a :: st) := by
  obtain ⟨p, e, R, s, m, args, below, meth, c, t0, u0⟩ := x
  obtain ⟨hx, hb, hml, hown, hts, hV, hrt, hlk, hnmn, C2⟩ := C
  intro H locs sl cells slots h1 h2 h3 h4 h5
  have hap := va_apart (own := own) hts hws tys hty hnm hV.1 hc
  obtain ⟨hba, r, hr, cell, q1, q2, q3, q4⟩ := h1.obj ha hci
  cases hr.symm.trans hc
  obtain ⟨hS, hfc, kC, hkC, hkind⟩ := hV.1.1 ci _ hc
  obtain ⟨cf, kf, fi, f, hi, hsl⟩ := hS k0 hk
  have hlay := hts _ (hws _ (u_in_lay hk))
  unfold u_lay at hlay
  rw [if_pos hfin] at hlay
  have hst := (u_facts hfc hkC (u_lays hts hws hk) hi).1
  have hcf : m.cls = cf := by
    obtain ⟨_, _, c', _, _, _, -, -, hf', -, -, -, hown2, -⟩ := Cond.laysFinal_spec hlay
    have e1 : c' = cf := by have := hi.symm.trans hf'; simp at this; exact this.1.symm
    rw [hdecl] at hown2
    rw [← e1]; exact Option.some.inj (hown.symm.trans hown2)
  have h6 := u_fits hfc hkC hkind (Or.inr hlay) hi hpd hn hfit
  refine W.putFinK hx hb hown (hts _ hl) (hs.use hts _ hi) hst hcf hnmn (by rw [q2]; exact h6) q1 q3 (by rw [hsl]; exact k2_hasslot (q4 k0 hk)) rfl rfl hd fun H' e1 e2 e3 => ?_
  rw [hsl] at e1 ⊢
  exact k H' _ sl cells slots (h1.put ha hci e2 e3 fun r' hr' => by cases hr'.symm.trans hc; exact ⟨_, e1, q2, q3, t_set q4 hap hk v⟩) (fx_locs h2 hba) h3 h4 h5
/-- a new object: its address is fxt w -/
theorem r_new (C : fxC G d cc nL own nm ret hh x) {Cn : String} {T : u_T} {N ci idx sz : Nat} {z : Nat → Value} (hd : decode cc pc = .ok (.new idx, 3)) (hc : fxCl[ci]? = some (Cn, T, N)) (hci : ci < 100) (hws : ∀ w ∈ u_ws Cn T N, w ∈ fxTW) (tys : Nat → FieldType) (hty : ∀ k, k < N → parseFieldDescriptor (T k).2.2.1 = some (tys k)) (hl : Cond.classLink own idx Cn ∈ fxTW) (hi : Cond.instantiable Cn sz ∈ fxTW) (hini : Cond.initialized Cn ∈ fxTW) (hz : ∀ j, j < N → defaultValue (tys j) = z j)
    (h9 : fxt w + 1 ≤ fxmt G) (h8 : fxu w + sz ≤ fxmu G) (k : fxR G nL x Q (fx_new w ci sz z) (pc + 3) ls (.ref (fxt w) :: st)) : fxR G nL x Q w pc ls st := by
  obtain ⟨p, e, R, s, m, args, below, meth, c, t0, u0⟩ := x
  obtain ⟨hx, hb, hml, hown, hts, hV, hrt, hlk, hnmn, hsz, hRc, hRs, C2⟩ := C
  intro H locs sl cells slots h1 h2 h3 h4 h5
  have h4' : t0 + cells = fxt w := h4
  have h5' : u0 + slots = fxu w := h5
  have hKn := hV.1.1 ci _ hc
  refine W.newcK hx hb hown (hts _ hl) (hts _ hi) (hts _ hini) rfl hd (by omega) (by omega) hKn.2.1 h1.1 fun H1 kC hkC e1 z1 o1 => ?_
  exact k H1 locs sl (cells + 1) (slots + sz) (h1.new hci z1 (fun q hq => o1 q hq) h9 h8 ⟨_, hc, (u_born tys hts hws hKn hkC e1 hty).to hz⟩) h2 h3 (by show t0 + (cells + 1) = fxt w + 1; omega) (by show u0 + (slots + sz) = fxu w + sz; omega)
/-- arrays: a place, the length -/
theorem r_alen (C : fxC G d cc nL own nm ret hh x) {a t n : Nat} {v : Int32} (hd : decode cc pc = .ok (.arraylength, 1)) (ht : t < 100) (ha : fxk w a = some (100 + t, n) ∨ fxk w a = some (200 + t, n)) (hv : Int32.ofNat n = v) (k : fxR G nL x Q w (pc + 1) ls (.int v :: st)) : fxR G nL x Q w pc ls (.ref a :: st) := by
  obtain ⟨p, e, R, s, m, args, below, meth, c, t0, u0⟩ := x
  obtain ⟨hx, hb, hml, hown, hts, hV, C2⟩ := C
  intro H locs sl cells slots h1 h2 h3 h4 h5
  obtain ⟨ty, hty, q1⟩ := h1.rarr ht ha
  exact W.alen (n := v) hx hb q1 ((hV.1.2 t _ (fxT_at hty)).1 n _) (by rw [arrV_size]; exact hv) rfl rfl hd (k H locs sl cells slots h1 h2 h3 h4 h5)

theorem r_iaload (C : fxC G d cc nL own nm ret hh x) {a t n : Nat} {i : Int32} {v : Value} (hd : decode cc pc = .ok (.iaload, 1)) (ht : t < 100) (hty : fxAr[t]? = some .int) (ha : fxk w a = some (100 + t, n) ∨ fxk w a = some (200 + t, n)) (hi : vp_in i n) (hv : fxe w t a i.toNatClampNeg = v) (k : fxR G nL x Q w (pc + 1) ls (v :: st)) : fxR G nL x Q w pc ls (.int i :: .ref a :: st) := by
  obtain ⟨p, e, R, s, m, args, below, meth, c, t0, u0⟩ := x
  obtain ⟨hx, hb, hml, hown, hts, hV, C2⟩ := C
  intro H locs sl cells slots h1 h2 h3 h4 h5
  obtain ⟨ty, hty', q1⟩ := h1.rarr ht ha
  cases hty'.symm.trans hty
  have hlt : i.toNatClampNeg < n := Nat.not_le.mp fun q => hi (Or.inr q)
  exact W.iald (v := v) hx hb q1 ((hV.1.2 t _ (fxT_at hty)).1 n _) (fun q => by cases q) (by rw [arrV_size]; exact hi) (by rw [arrV_read _ _ hlt]; exact congrArg some hv) rfl rfl hd (k H locs sl cells slots h1 h2 h3 h4 h5)
theorem r_laload (C : fxC G d cc nL own nm ret hh x) {a t n : Nat} {i : Int32} {v : Value} (hd : decode cc pc = .ok (.laload, 1)) (ht : t < 100) (hty : fxAr[t]? = some .long) (ha : fxk w a = some (100 + t, n) ∨ fxk w a = some (200 + t, n)) (hi : vp_in i n) (hv : fxe w t a i.toNatClampNeg = v) (k : fxR G nL x Q w (pc + 1) ls (v :: st)) : fxR G nL x Q w pc ls (.int i :: .ref a :: st) := by
  obtain ⟨p, e, R, s, m, args, below, meth, c, t0, u0⟩ := x
  obtain ⟨hx, hb, hml, hown, hts, hV, C2⟩ := C
  intro H locs sl cells slots h1 h2 h3 h4 h5
  obtain ⟨ty, hty', q1⟩ := h1.rarr ht ha
  cases hty'.symm.trans hty
  have hlt : i.toNatClampNeg < n := Nat.not_le.mp fun q => hi (Or.inr q)
  exact W.lald (v := v) hx hb q1 ((hV.1.2 t _ (fxT_at hty)).1 n _) (fun q => by cases q) (by rw [arrV_size]; exact hi) (by rw [arrV_read _ _ hlt]; exact congrArg some hv) rfl rfl hd (k H locs sl cells slots h1 h2 h3 h4 h5)
theorem r_baload (C : fxC G d cc nL own nm ret hh x) {a t n : Nat} {i : Int32} {v : Value} (hd : decode cc pc = .ok (.baload, 1)) (ht : t < 100) (hty : fxAr[t]? = some .byte) (ha : fxk w a = some (100 + t, n) ∨ fxk w a = some (200 + t, n)) (hi : vp_in i n) (hv : fxe w t a i.toNatClampNeg = v) (k : fxR G nL x Q w (pc + 1) ls (v :: st)) : fxR G nL x Q w pc ls (.int i :: .ref a :: st) := by
  obtain ⟨p, e, R, s, m, args, below, meth, c, t0, u0⟩ := x
  obtain ⟨hx, hb, hml, hown, hts, hV, C2⟩ := C
  intro H locs sl cells slots h1 h2 h3 h4 h5
  obtain ⟨ty, hty', q1⟩ := h1.rarr ht ha
  cases hty'.symm.trans hty
  have hlt : i.toNatClampNeg < n := Nat.not_le.mp fun q => hi (Or.inr q)
  exact W.bald (v := v) hx hb q1 ((hV.1.2 t _ (fxT_at hty)).1 n _) (fun q => by cases q) (by rw [arrV_size]; exact hi) (by rw [arrV_read _ _ hlt]; exact congrArg some hv) rfl rfl hd (k H locs sl cells slots h1 h2 h3 h4 h5)
theorem r_saload (C : fxC G d cc nL own nm ret hh x) {a t n : Nat} {i : Int32} {v : Value} (hd : decode cc pc = .ok (.saload, 1)) (ht : t < 100) (hty : fxAr[t]? = some .short) (ha : fxk w a = some (100 + t, n) ∨ fxk w a = some (200 + t, n)) (hi : vp_in i n) (hv : fxe w t a i.toNatClampNeg = v) (k : fxR G nL x Q w (pc + 1) ls (v :: st)) : fxR G nL x Q w pc ls (.int i :: .ref a :: st) := by
  obtain ⟨p, e, R, s, m, args, below, meth, c, t0, u0⟩ := x
  obtain ⟨hx, hb, hml, hown, hts, hV, C2⟩ := C
  intro H locs sl cells slots h1 h2 h3 h4 h5
  obtain ⟨ty, hty', q1⟩ := h1.rarr ht ha
  cases hty'.symm.trans hty
  have hlt : i.toNatClampNeg < n := Nat.not_le.mp fun q => hi (Or.inr q)
  exact W.sald (v := v) hx hb q1 ((hV.1.2 t _ (fxT_at hty)).1 n _) (fun q => by cases q) (by rw [arrV_size]; exact hi) (by rw [arrV_read _ _ hlt]; exact congrArg some hv) rfl rfl hd (k H locs sl cells slots h1 h2 h3 h4 h5)
theorem r_aaload (C : fxC G d cc nL own nm ret hh x) {a t n : Nat} {i : Int32} {v : Value} {ty : FieldType} (hd : decode cc pc = .ok (.aaload, 1)) (ht : t < 100) (hty : fxAr[t]? = some ty) (href : ty.isReference = true) (ha : fxk w a = some (100 + t, n) ∨ fxk w a = some (200 + t, n)) (hi : vp_in i n) (hv : fxe w t a i.toNatClampNeg = v) (k : fxR G nL x Q w (pc + 1) ls (v :: st)) : fxR G nL x Q w pc ls (.int i :: .ref a :: st) := by
  obtain ⟨p, e, R, s, m, args, below, meth, c, t0, u0⟩ := x
  obtain ⟨hx, hb, hml, hown, hts, hV, C2⟩ := C
  intro H locs sl cells slots h1 h2 h3 h4 h5
  obtain ⟨ty', hty', q1⟩ := h1.rarr ht ha
  cases hty'.symm.trans hty
  have hlt : i.toNatClampNeg < n := Nat.not_le.mp fun q => hi (Or.inr q)
  exact W.aald (v := v) (ty := ty) hx hb q1 ((hV.1.2 t _ (fxT_at hty)).1 n _) href (fun q => by cases q) (by rw [arrV_size]; exact hi) (by rw [arrV_read _ _ hlt]; exact congrArg some hv) rfl rfl hd (k H locs sl cells slots h1 h2 h3 h4 h5)
theorem r_iastore (C : fxC G d cc nL own nm ret hh x) {a t n : Nat} {i : Int32} {v : Int32} (hd : decode cc pc = .ok (.iastore, 1)) (ht : t < 100) (hty : fxAr[t]? = some .int) (ha : fxk w a = some (100 + t, n)) (hi : vp_in i n) (k : fxR G nL x Q (fx_ast w t a i.toNatClampNeg (.int v)) (pc + 1) ls st) : fxR G nL x Q w pc ls (.int v :: .int i :: .ref a :: st) := by
  obtain ⟨p, e, R, s, m, args, below, meth, c, t0, u0⟩ := x
  obtain ⟨hx, hb, hml, hown, hts, hV, C2⟩ := C
  intro H locs sl cells slots h1 h2 h3 h4 h5
  obtain ⟨hba, ty', hty', q1⟩ := h1.arr ht ha
  cases hty'.symm.trans hty
  refine W.iast hx hb q1 ((hV.1.2 t _ (fxT_at hty)).1 n _) (fun q => by cases q) (by rw [arrV_size]; exact hi) rfl rfl hd fun H1 e1 z oq => ?_
  exact k H1 _ sl cells slots (h1.ast ht ha z oq (by rw [e1, arrV_store])) (fx_locs h2 hba) h3 h4 h5
theorem r_lastore (C : fxC G d cc nL own nm ret hh x) {a t n : Nat} {i : Int32} {v : Int64} (hd : decode cc pc = .ok (.lastore, 1)) (ht : t < 100) (hty : fxAr[t]? = some .long) (ha : fxk w a = some (100 + t, n)) (hi : vp_in i n) (k : fxR G nL x Q (fx_ast w t a i.toNatClampNeg (.long v)) (pc + 1) ls st) : fxR G nL x Q w pc ls (.long v :: .int i :: .ref a :: st) := by
  obtain ⟨p, e, R, s, m, args, below, meth, c, t0, u0⟩ := x
  obtain ⟨hx, hb, hml, hown, hts, hV, C2⟩ := C
  intro H locs sl cells slots h1 h2 h3 h4 h5
  obtain ⟨hba, ty', hty', q1⟩ := h1.arr ht ha
  cases hty'.symm.trans hty
  refine W.last hx hb q1 ((hV.1.2 t _ (fxT_at hty)).1 n _) (fun q => by cases q) (by rw [arrV_size]; exact hi) rfl rfl hd fun H1 e1 z oq => ?_
  exact k H1 _ sl cells slots (h1.ast ht ha z oq (by rw [e1, arrV_store])) (fx_locs h2 hba) h3 h4 h5
/-- a reference into an array: an object of the class ci, castable to the component -/
theorem r_aastore (C : fxC G d cc nL own nm ret hh x) {a b t n n' ci : Nat} {i : Int32} {r : vw_C} {E : String} (hd : decode cc pc = .ok (.aastore, 1)) (ht : t < 100) (hty : fxAr[t]? = some (.object E)) (ha : fxk w a = some (100 + t, n)) (hb9 : fxk w b = some (ci, n')) (hci : ci < 100) (hc : fxCl[ci]? = some r) (hca : r.1 = E ∨ Cond.castable r.1 E ∈ fxTW) (hi : vp_in i n) (k : fxR G nL x Q (fx_ast w t a i.toNatClampNeg (.ref b)) (pc + 1) ls st) : fxR G nL x Q w pc ls (.ref b :: .int i :: .ref a :: st) := by
  obtain ⟨p, e, R, s, m, args, below, meth, c, t0, u0⟩ := x
  obtain ⟨hx, hb, hml, hown, hts, hV, C2⟩ := C
  intro H locs sl cells slots h1 h2 h3 h4 h5
  obtain ⟨hba, ty', hty', q1⟩ := h1.arr ht ha
  cases hty'.symm.trans hty
  have hlt : i.toNatClampNeg < n := Nat.not_le.mp fun q => hi (Or.inr q)
  have h0 : ¬ i < 0 := fun q => hi (Or.inl q)
  obtain ⟨-, r', hr', cellV, g1, g2, g3, -⟩ := h1.obj hb9 hci
  have hcls := (hV.1.1 ci r hc).2
  obtain ⟨kA, comp, k1, k2, k3, -⟩ := (hV.1.2 t _ (fxT_at hty)).2
  obtain ⟨kE, hkE, -⟩ := Vm.findClass_spec k3
  obtain ⟨kC, hkC, -⟩ := hcls.2
  have hasg : s.vm.assignable ((fxD G).1 ci) comp = true := by
    rcases hca with h | h
    · subst h
      cases hcls.1.symm.trans k3
      exact va_assign hcls
    · obtain ⟨c0, t1, f1, f2, f3⟩ := Cond.castable_spec (hts _ h)
      cases hcls.1.symm.trans f1
      cases k3.symm.trans f2
      exact f3
  refine W.aast hx hb q1 (fun q h => by cases h) (fun h => by cases h) k1 k2 rfl hkE ⟨h0, by rw [arrV_size]; exact hlt⟩ g1 (fun q h => by rw [g3] at h; cases h) (by rw [g2]; exact hkC) (by rw [g2]; exact hasg) rfl rfl hd fun H1 e1 z oq => ?_
  exact k H1 _ sl cells slots (h1.ast ht ha z oq (by rw [e1, arrV_store])) (fx_locs h2 hba) h3 h4 h5
theorem r_aastoreN (C : fxC G d cc nL own nm ret hh x) {a t n : Nat} {i : Int32} {E : String} (hd : decode cc pc = .ok (.aastore, 1)) (ht : t < 100) (hty : fxAr[t]? = some (.object E)) (ha : fxk w a = some (100 + t, n)) (hi : vp_in i n) (k : fxR G nL x Q (fx_ast w t a i.toNatClampNeg .null) (pc + 1) ls st) : fxR G nL x Q w pc ls (.null :: .int i :: .ref a :: st) := by
  obtain ⟨p, e, R, s, m, args, below, meth, c, t0, u0⟩ := x
  obtain ⟨hx, hb, hml, hown, hts, hV, C2⟩ := C
  intro H locs sl cells slots h1 h2 h3 h4 h5
  obtain ⟨hba, ty', hty', q1⟩ := h1.arr ht ha
  cases hty'.symm.trans hty
  refine va_WaastN (C := E) hx hb q1 ((hV.1.2 t _ (fxT_at hty)).1 n _) (fun q => by cases q) (by rw [arrV_size]; exact hi) rfl rfl hd fun H1 e1 z oq => ?_
  exact k H1 _ sl cells slots (h1.ast ht ha z oq (by rw [e1, arrV_store])) (fx_locs h2 hba) h3 h4 h5
theorem r_newarr (C : fxC G d cc nL own nm ret hh x) {t N : Nat} {atype : ArrayType} {i : Int32} {z : Value} (hd : decode cc pc = .ok (.newarray atype, 2)) (ht : t < 100) (hty : fxAr[t]? = some (newarray.typeOf atype)) (hw : Cond.arrayClass (newarray.typeOf atype) ∈ fxTW) (hn : ¬ i < 0) (hN : i.toNatClampNeg = N) (hby : N * componentBytes (newarray.typeOf atype) ≤ 536870912) (hz : defaultValue (newarray.typeOf atype) = z) (h9 : fxt w + 1 ≤ fxmt G) (h8 : fxu w + N ≤ fxmu G) (k : fxR G nL x Q (fx_newa w t N z) (pc + 2) ls (.ref (fxt w) :: st)) : fxR G nL x Q w pc ls (.int i :: st) := by
  obtain ⟨p, e, R, s, m, args, below, meth, c, t0, u0⟩ := x
  obtain ⟨hx, hb, hml, hown, hts, hV, hrt, hlk, hnmn, hsz, hRc, hRs, C2⟩ := C
  intro H locs sl cells slots h1 h2 h3 h4 h5
  have h4' : t0 + cells = fxt w := h4
  have h5' : u0 + slots = fxu w := h5
  subst hz
  refine va_newaK hx hb (hts _ hw) rfl hd rfl hn hN hby (by omega) (by omega) h1.1 fun H1 cA e1 z1 o1 hAr hNm => ?_
  have hcA : cA = fxA G t := by
    have h7 := (hV.1.2 t _ (fxT_at hty)).2
    cases atype <;> exact Option.some.inj (hNm.symm.trans h7)
  subst hcA
  exact k H1 locs sl (cells + 1) (slots + N) (h1.newa ht hty z1 (fun q hq => o1 q hq) h9 h8 e1) h2 h3 (by show t0 + (cells + 1) = fxt w + 1; omega) (by show u0 + (slots + N) = fxu w + N; omega)
theorem r_anew (C : fxC G d cc nL own nm ret hh x) {t N idx : Nat} {i : Int32} {E : String} (hd : decode cc pc = .ok (.anewarray idx, 3)) (ht : t < 100) (hty : fxAr[t]? = some (.object E)) (hcl : Cond.classLink own idx E ∈ fxTW) (hov : Cond.arrayOver (.object E) ∈ fxTW) (hn : ¬ i < 0) (hN : i.toNatClampNeg = N) (hby : N * 4 ≤ 536870912) (h9 : fxt w + 1 ≤ fxmt G) (h8 : fxu w + N ≤ fxmu G) (k : fxR G nL x Q (fx_newa w t N .null) (pc + 3) ls (.ref (fxt w) :: st)) : fxR G nL x Q w pc ls (.int i :: st) := by
  obtain ⟨p, e, R, s, m, args, below, meth, c, t0, u0⟩ := x
  obtain ⟨hx, hb, hml, hown, hts, hV, hrt, hlk, hnmn, hsz, hRc, hRs, C2⟩ := C
  intro H locs sl cells slots h1 h2 h3 h4 h5
  have h4' : t0 + cells = fxt w := h4
  have h5' : u0 + slots = fxu w := h5
  subst hN
  refine W.anew hx hb hown (hts _ hcl) (hts _ hov) rfl hd rfl hn hby (by omega) (by omega) fun cA kA comp f1 f2 f3 f4 => ?_
  have hcA : cA = fxA G t := by
    obtain ⟨_, _, _, _, _, h7⟩ := (hV.1.2 t _ (fxT_at hty)).2
    exact Option.some.inj (f1.symm.trans h7)
  subst hcA
  have hHs : H.size = fxt w := h1.1
  refine cast ?_ (k (H.push ({ cls := fxA G t, slots := Array.replicate i.toNatClampNeg .null, vm := .none } : Cell)) locs sl (cells + 1) (slots + i.toNatClampNeg) (h1.newa ht hty (by rw [Array.size_push, hHs]) (fun q hq => by rw [Array.getElem?_push, if_neg (by omega)]) h9 h8 (by rw [← hHs, Array.getElem?_push_size, ← arrV_new])) h2 h3 (by show t0 + (cells + 1) = fxt w + 1; omega) (by show u0 + (slots + i.toNatClampNeg) = fxu w + i.toNatClampNeg; omega))
  rw [← hHs]
  rfl
theorem fx_mono {p : Program} {l : Launch} {e : Env} {R : Room} {s : State} {m : MethodId} {args : Array Value} {below : List Frame} {meth : Method} {c : Code} {H : Heap} {locs : List Loc} {cells slots : Nat} {Q Q' : State → Prop} {g : JFrame} (h : W p l e R s m args below meth c H locs cells slots Q g) (hq : ∀ t, Q t → Q' t) : W p l e R s m args below meth c H locs cells slots Q' g := fun T hT X => by
  obtain ⟨t, a, b⟩ := h T hT X
  exact ⟨t, a, hq t b⟩
theorem r_ireturn (C : fxC G d cc nL own nm ret hh x) {P : Outcome → fxW → Prop} {v : Int32} (hd : decode cc pc = .ok (.ireturn, 1)) (hr : ret = some .int) (k : P (.returned (some (.int v))) w) : fxR G nL x (fxQ G x P) w pc ls [.int v] := by
  obtain ⟨p, e, R, s, m, args, below, meth, c, t0, u0⟩ := x
  obtain ⟨hx, hb, hml, hown, hts, hV, hrt, hlk, C2⟩ := C
  intro H locs sl cells slots h1 h2 h3 h4 h5
  refine fx_mono (W.iret (v := v) hx hb (hrt.trans hr) (Qc := fun _ s' o t => o = .returned (some (.int v)) ∧ fxI G w t) (free := fun a => fxb G ≤ a) (fun t ht hW => ⟨rfl, by rw [fxI, ht]; exact ⟨h1, hV.moved hW⟩⟩) h2 hd hlk) ?_
  rintro t ⟨o, b1, b2, ⟨rfl, b3⟩, L, b4, b5⟩
  exact ⟨_, b1, b2, w, k, b3, L, cells, slots, b4.2.1, b4.2.2, b5, h4, h5⟩
theorem r_zreturn (C : fxC G d cc nL own nm ret hh x) {P : Outcome → fxW → Prop} {v : Int32} (hd : decode cc pc = .ok (.ireturn, 1)) {ty : FieldType} (hr : ret = some ty) (hn : narrow ty (.int v) = .int v) (k : P (.returned (some (.int v))) w) : fxR G nL x (fxQ G x P) w pc ls [.int v] := by
  obtain ⟨p, e, R, s, m, args, below, meth, c, t0, u0⟩ := x
  obtain ⟨hx, hb, hml, hown, hts, hV, hrt, hlk, C2⟩ := C
  intro H locs sl cells slots h1 h2 h3 h4 h5
  refine fx_mono (W.zret (v := v) hx hb (hrt.trans hr) hn (Qc := fun _ s' o t => o = .returned (some (.int v)) ∧ fxI G w t) (free := fun a => fxb G ≤ a) (fun t ht hW => ⟨rfl, by rw [fxI, ht]; exact ⟨h1, hV.moved hW⟩⟩) h2 hd hlk) ?_
  rintro t ⟨o, b1, b2, ⟨rfl, b3⟩, L, b4, b5⟩
  exact ⟨_, b1, b2, w, k, b3, L, cells, slots, b4.2.1, b4.2.2, b5, h4, h5⟩
theorem r_lreturn (C : fxC G d cc nL own nm ret hh x) {P : Outcome → fxW → Prop} {v : Int64} (hd : decode cc pc = .ok (.lreturn, 1)) (hr : ret = some .long) (k : P (.returned (some (.long v))) w) : fxR G nL x (fxQ G x P) w pc ls [.long v] := by
  obtain ⟨p, e, R, s, m, args, below, meth, c, t0, u0⟩ := x
  obtain ⟨hx, hb, hml, hown, hts, hV, hrt, hlk, C2⟩ := C
  intro H locs sl cells slots h1 h2 h3 h4 h5
  refine fx_mono (W.lret (v := v) hx hb (hrt.trans hr) (Qc := fun _ s' o t => o = .returned (some (.long v)) ∧ fxI G w t) (free := fun a => fxb G ≤ a) (fun t ht hW => ⟨rfl, by rw [fxI, ht]; exact ⟨h1, hV.moved hW⟩⟩) h2 hd hlk) ?_
  rintro t ⟨o, b1, b2, ⟨rfl, b3⟩, L, b4, b5⟩
  exact ⟨_, b1, b2, w, k, b3, L, cells, slots, b4.2.1, b4.2.2, b5, h4, h5⟩
theorem r_areturn (C : fxC G d cc nL own nm ret hh x) {P : Outcome → fxW → Prop} {v : Value} (hd : decode cc pc = .ok (.areturn, 1)) {ty : FieldType} (hr : ret = some ty) (hn : (∃ n, ty = .object n) ∨ ∃ t, ty = .array t) (hv : v = .null ∨ ∃ a, v = .ref a) (k : P (.returned (some v)) w) : fxR G nL x (fxQ G x P) w pc ls [v] := by
  obtain ⟨p, e, R, s, m, args, below, meth, c, t0, u0⟩ := x
  obtain ⟨hx, hb, hml, hown, hts, hV, hrt, hlk, C2⟩ := C
  intro H locs sl cells slots h1 h2 h3 h4 h5
  refine fx_mono (W.aret (v := v) hx hb (hrt.trans hr) hn hv (Qc := fun _ s' o t => o = .returned (some v) ∧ fxI G w t) (free := fun a => fxb G ≤ a) (fun t ht hW => ⟨rfl, by rw [fxI, ht]; exact ⟨h1, hV.moved hW⟩⟩) h2 hd hlk) ?_
  rintro t ⟨o, b1, b2, ⟨rfl, b3⟩, L, b4, b5⟩
  exact ⟨_, b1, b2, w, k, b3, L, cells, slots, b4.2.1, b4.2.2, b5, h4, h5⟩
theorem r_return (C : fxC G d cc nL own nm ret hh x) {P : Outcome → fxW → Prop} (hd : decode cc pc = .ok (.return_, 1)) (hr : ret = none) (k : P (.returned (none)) w) : fxR G nL x (fxQ G x P) w pc ls [] := by
  obtain ⟨p, e, R, s, m, args, below, meth, c, t0, u0⟩ := x
  obtain ⟨hx, hb, hml, hown, hts, hV, hrt, hlk, C2⟩ := C
  intro H locs sl cells slots h1 h2 h3 h4 h5
  refine fx_mono (W.vret hx hb (hrt.trans hr) (Qc := fun _ s' o t => o = .returned (none) ∧ fxI G w t) (free := fun a => fxb G ≤ a) (fun t ht hW => ⟨rfl, by rw [fxI, ht]; exact ⟨h1, hV.moved hW⟩⟩) h2 hd hlk) ?_
  rintro t ⟨o, b1, b2, ⟨rfl, b3⟩, L, b4, b5⟩
  exact ⟨_, b1, b2, w, k, b3, L, cells, slots, b4.2.1, b4.2.2, b5, h4, h5⟩
end FXH
end
section
/-! CONTRACTS: entry, calls, throws -/
/-- the code word of a method: with no handlers, or with them -/
def fxcode (y : MethodName) (cc : ByteArray) (nL : Nat) (ret : Option FieldType) (hh : List (Nat × Nat × Nat × Nat)) : Cond := match hh with
  | [] => .code y cc nL ret
  | q :: r => .codeWith y cc nL ret (q :: r)
theorem fxcode_spec {y : MethodName} {cc : ByteArray} {nL : Nat} {ret : Option FieldType} {hh : List (Nat × Nat × Nat × Nat)} {args : Array Value} {s : State} {m : MethodId} (hn : s.methodNamed? y = some m) (h : (fxcode y cc nL ret hh).before args s = true) :
    ∃ meth c, s.vm.method? m = some meth ∧ meth.code = some c ∧ c.code = cc ∧ c.maxLocals = nL ∧ meth.sig.returnType = ret ∧ meth.locks = false ∧ c.exceptionTable.toList.map (fun x => (x.startPc, x.endPc, x.handlerPc, x.catchType)) = hh ∧ parseMethodDescriptor y.desc = some meth.sig := by
  cases hh with
  | nil =>
    obtain ⟨meth, c, h1, h2, h3, h4, h5, h6, h7, h8⟩ := Cond.code_spec hn h
    refine ⟨meth, c, h1, h2, h3, h4, h5, h6, ?_, h8⟩
    have h0 : c.exceptionTable.size = 0 := by simpa [Array.isEmpty] using h7
    have h1 : c.exceptionTable.toList = [] := List.eq_nil_of_length_eq_zero (by simpa using h0)
    rw [h1]; rfl
  | cons q r =>
    obtain ⟨m', meth, c, h0, h1, h2, h3, h4, h5, h6, h7, h8⟩ := Cond.codeWith_spec h
    cases hn.symm.trans h0
    exact ⟨meth, c, h1, h2, h3, h4, h6, h7, h5, h8⟩
theorem fxV.calling {G : fxG} {T : State} (h : fxV G T) (g : JFrame) (mk : MethodId) (a : Array Value) : fxV G (T.calling g mk a) := h.moved (u := T) (U := T.calling g mk a) (State.WarmedH.refl T)
theorem fxcode_named {y : MethodName} {cc : ByteArray} {nL : Nat} {ret : Option FieldType} {hh : List (Nat × Nat × Nat × Nat)} {args : Array Value} {s : State} (h : (fxcode y cc nL ret hh).before args s = true) : ∃ m, s.methodNamed? y = some m := by
  cases hh with
  | nil => exact Cond.code_named h
  | cons q r =>
    obtain ⟨m', meth, c, h0, -⟩ := Cond.codeWith_spec h
    exact ⟨m', h0⟩
/-- ENTRY: a contract out of the walk of the body -/
theorem fxM.of {G : fxG} {d : Nat} {y : MethodName} {as : List Value} {w : fxW} {P : Outcome → fxW → Prop} (cc : ByteArray) (nL : Nat) (ret : Option FieldType) (hh : List (Nat × Nat × Nat × Nat)) (hy : plainFor y = true) (hcw : fxcode y cc nL ret hh ∈ fxTW) (hnl : (lg_sl as).length ≤ nL)
    (body : ∀ x : fxX, fxC G d cc nL y.cls y.name ret hh x → fxt0 x = fxt w → fxu0 x = fxu w → fxR G nL x (fxQ G x P) w 0 (lv_args 0 as) []) : fxM G d y as w P := by
  refine MetFree.of_bodySF (code := cc) (maxLocals := nL) (ret := ret) hy ?_ ?_
  · intro args s m h hn
    obtain ⟨meth, c, h1, h2, h3, h4, h5, h6, -, -⟩ := fxcode_spec hn (atoms_spec (ws := fxTW) h _ hcw)
    exact ⟨meth, c, h1, h2, h3, h4, h5, h6⟩
  · intro p e s m args below meth c s₁ B hml hP _
    obtain ⟨rfl, hH, hV⟩ := hP
    have hts := atoms_spec (ws := fxTW) B.pre
    have hown : s.vm.findClass y.cls = some m.cls := findClass_of_methodNamed B.named
    have X := Stand.of_body B
    obtain ⟨meth', c', h1, h2, h3, h4, h5, h6, h7, h8⟩ := fxcode_spec B.named (hts _ hcw)
    cases B.method.symm.trans h1
    cases X.code.symm.trans h2
    have hh0 : s₁.heap = s.heap := by rw [B.state]; rfl
    have hl := lv_entry as (n := nL) hnl
    have k := body (p, e, fxRm G d w, s, m, as.toArray, below, meth, c, fxt w, fxu w) ⟨B.exec, B.bytes, hml, hown, hts, hV, B.returns, B.notSynchronized, (name_of_methodNamed B.named B.method).1, hH.1, by show fxt w + (fxmt G - fxt w) = fxmt G; have := hH.2.2.2.1; omega, by show fxu w + (fxmu G - fxu w) = fxmu G; have := hH.2.2.2.2.1; omega, Nat.le_refl _, Nat.le_refl _, hH.2.2.1, h7, B.admits⟩ rfl rfl
    obtain ⟨t, a1, o, b1, b2, b3⟩ := k s.heap [] _ 0 0 hH (fun _ h => by cases h) hl rfl rfl s₁ hh0 X
    rw [← lg_entry_eq] at a1
    exact ⟨t, o, a1, b1, b2, b3⟩
/-- A CALL COMES BACK, by the callee's contract: it has returned, or thrown -/
theorem fx_back {G : fxG} {p : Program} {e : Env} {R : Room} {s : State} {m : MethodId} {args : Array Value} {below : List Frame} {meth : Method} {c : Code} {T : State} {locs : List Loc} {cells slots : Nat} (X : Stand p (fxl G) e R s m args below meth c T locs cells slots)
    {d maxL : Nat} {y : MethodName} {as : List Value} {w : fxW} {P : Outcome → fxW → Prop} (hM : fxM G d y as w P) (hH : fxH G w T.heap) (hV : fxV G T) (hts : ∀ q ∈ fxTW, q.before args s = true) {mk : MethodId} (hn : T.methodNamed? y = some mk)
    (hcode : ∃ (methY : Method) (cY : Code), T.vm.method? mk = some methY ∧ methY.code = some cY ∧ cY.maxLocals = maxL) (hini : Cond.initialized y.cls ∈ fxTW) (hfr : d + 1 ≤ R.frames) (hlo : 8 + (maxL + 11) + (38 * d + 20) ≤ R.locals) (hc : cells + (fxmt G - fxt w) ≤ R.cells) (hs : slots + (fxmu G - fxu w) ≤ R.slots)
    {g : JFrame} (hg : g.method = m) (hsize : g.locals.size = c.maxLocals) (hW : 2 * g.monitorRoom + (g.stack.map fun v => v.category).sum ≤ 8) {ig : Instr} {len : Nat} (hdg : decode c.code g.pc = .ok (ig, len)) :
    ∃ (o : Outcome) (w' : fxW) (T' : State) (L : List Loc) (k n : Nat), P o w' ∧ fxH G w' T'.heap ∧ Stand p (fxl G) e R s m args below meth c T' (locs ++ L) (cells + k) (slots + n) ∧ (∀ q ∈ L, fxb G ≤ q.base) ∧ fxt w + k = fxt w' ∧ fxu w + n = fxu w' ∧
      (∀ v, o = .returned v → Steps p.tables e below (doInvoke e (T.setTop g) [] mk as.toArray).1 (T'.setTop { g with pc := g.pc + len, stack := v.toList ++ g.stack })) ∧
      (∀ a, o = .threw a → Steps p.tables e below (doInvoke e (T.setTop g) [] mk as.toArray).1 ((T'.setTop g).pushFrame (.throwing a))) := by
  obtain ⟨methY, cY, hmY, hcY, hlY⟩ := hcode
  obtain ⟨kY, hkY, -⟩ := className_of_methodNamed hn
  have hwords : ∀ q ∈ fxTW, q.before as.toArray T = true := fun q hq => fxTW_at hq X.warmed (hts q hq)
  have hinitY : kY.init = .initialized := Cond.initialized_spec (findClass_of_methodNamed hn) hkY (hwords _ hini)
  have h : At T g.method c below := by rw [hg]; exact X.here
  have happ : (headSpec fxTW (fxRm G d w)).appliesLoose y e.platform (T.calling g mk as.toArray) = true :=
    Spec.appliesLoose_calling (g := g) h hdg hn hkY hinitY (X.room_calling (g := g) (R' := fxRm G d w) hsize hmY hcY hfr (by rw [hlY]; show _ + _ + (maxL + 11) + (38 * d + 20) ≤ R.locals; omega) hc hs) (atoms_intro hwords)
  obtain ⟨mid, hmid⟩ := h.above
  have hfr' : (T.setTop g).frames = (.java g :: mid) ++ below := by rw [State.frames_setTop' g h.top, hmid]; rfl
  obtain ⟨o, s₂, hsteps, -, hend, hq⟩ := Steps.callFree hM p X.admits X.cas X.clock (acts := []) hfr' happ ⟨rfl, hH, hV.calling g mk as.toArray⟩ trivial
  rw [State.frames_setTop' g h.top] at hend
  obtain ⟨w', hP, ⟨hH', -⟩, L, k, n, hW₂, hsm, hL, hk, hn'⟩ := hq
  have hsm' : (T.calling g mk as.toArray).sameButNew ({ s₂ with vm := (T.calling g mk as.toArray).vm } : State) L k n := hsm
  obtain ⟨e2, q2, q3, q4, q5, q6⟩ := hsm'
  have e3 : s₂ = ({ (T.calling g mk as.toArray).setFrames s₂.frames with heap := s₂.heap, slotsUsed := s₂.slotsUsed } : State).setVm s₂.vm := by
    have e4 : s₂ = ({ s₂ with vm := (T.calling g mk as.toArray).vm } : State).setVm s₂.vm := rfl
    rw [e2] at e4
    exact e4
  have hW' : T.WarmedH s₂.vm := hW₂
  obtain ⟨g₀, hg0⟩ := Option.isSome_iff_exists.mp h.top
  obtain ⟨r, hr⟩ := State.topJava?_eq_some.mp hg0
  have hr' : (({ T with heap := s₂.heap, slotsUsed := s₂.slotsUsed } : State).setVm s₂.vm).frames = .java g₀ :: r := hr
  have hsame : T.sameButNew ({ T with heap := s₂.heap, slotsUsed := s₂.slotsUsed } : State) L k n := by
    refine ⟨?_, q2, q3, q4, q5, q6⟩
    obtain ⟨t, ht, -⟩ := State.frames_cons hr
    show ({ T with heap := s₂.heap, slotsUsed := s₂.slotsUsed } : State) = { T.setFrames T.frames with heap := s₂.heap, slotsUsed := s₂.slotsUsed }
    rw [State.setFrames_self ht]
  refine ⟨o, w', ({ T with heap := s₂.heap, slotsUsed := s₂.slotsUsed } : State).setVm s₂.vm, L, k, n, hP, hH', ⟨X.admits, X.cas, X.clock, X.frames, X.room, X.hears, X.method, X.code, (X.here.setHeapUsed s₂.heap s₂.slotsUsed).setVm hW'.alike, X.tail, State.WarmedH.trans X.warmed hW', X.limits, X.bytes, X.same.trans (hsame.setVm s.vm)⟩, hL, hk, hn', ?_, ?_⟩
  · intro v hv
    subst hv
    obtain ⟨c₂, i₂, len₂, hc₂, hd₂, hf₂⟩ := hend
    have hcc : c₂ = c := by
      have h1 : s₂.code? g.method = T.code? g.method := by
        rw [State.code?_eq, State.code?_eq, hW'.alike.method?]
      exact Option.some.inj (hc₂.symm.trans (h1.trans h.code))
    subst hcc
    have hlen : len₂ = len := by rw [hdg] at hd₂; cases hd₂; rfl
    subst hlen
    have hs₂ : s₂ = (({ T with heap := s₂.heap, slotsUsed := s₂.slotsUsed } : State).setVm s₂.vm).setTop { g with pc := g.pc + len₂, stack := v.toList ++ g.stack } := by
      refine e3.trans ?_
      rw [hf₂, State.calling_eq h.top, State.setFrames_setFrames, State.setTop_of_frames _ hr', hr]
      rfl
    rw [← hs₂]
    exact hsteps
  · intro a ha
    subst ha
    have hf₂ : s₂.frames = .throwing a :: .java g :: T.frames.tail := hend
    have hs₂ : s₂ = ((({ T with heap := s₂.heap, slotsUsed := s₂.slotsUsed } : State).setVm s₂.vm).setTop g).pushFrame (.throwing a) := by
      refine e3.trans ?_
      rw [hf₂, State.calling_eq h.top, State.setFrames_setFrames, State.pushFrame, State.frames_setTop _ hr', State.setTop_of_frames _ hr', State.setFrames_setFrames, hr]
      rfl
    rw [← hs₂]
    exact hsteps
/-- THE WALK WHILE a IS THROWN, over the frame at pc -/
def fxWt (G : fxG) (x : fxX) (H : Heap) (locs : List Loc) (cells slots : Nat) (Q : State → Prop) (pc : Nat) (sl : Array Slot) (st : List Value) (a : Nat) : Prop :=
  match x with
  | (p, e, R, s, m, args, below, meth, c, _, _) => ∀ T : State, T.heap = H → Stand p (fxl G) e R s m args below meth c T locs cells slots → ∃ t, Steps p.tables e below ((T.setTop (F0 m pc sl st)).pushFrame (.throwing a)) t ∧ Q t
def fxRt (G : fxG) (nL : Nat) (x : fxX) (Q : State → Prop) (w : fxW) (pc : Nat) (ls : List (Nat × Value)) (st : List Value) (a : Nat) : Prop :=
  ∀ (H : Heap) (locs : List Loc) (sl : Array Slot) (cells slots : Nat), fxH G w H → (∀ q ∈ locs, fxb G ≤ q.base) → lv_has sl nL ls → fxt0 x + cells = fxt w → fxu0 x + slots = fxu w → fxWt G x H locs cells slots Q pc sl st a
section FXC
variable {G : fxG} {d nL : Nat} {cc : ByteArray} {own nm : String} {ret : Option FieldType} {hh : List (Nat × Nat × Nat × Nat)} {x : fxX} {Q : State → Prop} {w : fxW} {pc : Nat} {ls : List (Nat × Value)} {st : List Value}
theorem r_athrow (C : fxC G d cc nL own nm ret hh x) {a : Nat} (hd : decode cc pc = .ok (.athrow, 1)) (k : fxRt G nL x Q w pc ls st a) : fxR G nL x Q w pc ls (.ref a :: st) := by
  obtain ⟨p, e, R, s, m, args, below, meth, c, t0, u0⟩ := x
  obtain ⟨hx, hb, C2⟩ := C
  intro H locs sl cells slots h1 h2 h3 h4 h5 T hT X
  obtain ⟨t, a1, b1⟩ := k H locs sl cells slots h1 h2 h3 h4 h5 T hT X
  refine ⟨t, ?_, b1⟩
  subst hb
  jvm_step X.here [hx, hd, Op.athrow.wp_sem]
  exact a1
/-- out of the method -/
theorem rt_out (C : fxC G d cc nL own nm ret hh x) {P : Outcome → fxW → Prop} {a : Nat} (hh0 : hh.all (fun q => !(decide (q.1 ≤ pc) && decide (pc < q.2.1))) = true) (k : P (.threw a) w) : fxRt G nL x (fxQ G x P) w pc ls st a := by
  obtain ⟨p, e, R, s, m, args, below, meth, c, t0, u0⟩ := x
  obtain ⟨hx, hb, hml, hown, hts, hV, hrt, hlk, hnmn, hsz, hRc, hRs, hfr, hlo, hbt, hex, hadm⟩ := C
  intro H locs sl cells slots h1 h2 h3 h4 h5 T hT X
  obtain ⟨a1, a2, a3, a4, a5⟩ := X.leaveThrown a (g := F0 m pc sl st) rfl rfl rfl (fun y hy => by
    have h9 := List.all_eq_true.mp hh0 (y.startPc, y.endPc, y.handlerPc, y.catchType) (by rw [← hex]; exact List.mem_map.mpr ⟨y, hy, rfl⟩)
    simp only [Bool.not_eq_true'] at h9
    exact h9) hlk
  exact ⟨_, a1, _, a2, a3, w, k, ⟨by show fxH G w T.heap; rw [hT]; exact h1, hV.moved a4⟩, locs, cells, slots, a4, a5, h2, h4, h5⟩
theorem fx_room {t0 u0 cells slots : Nat} {R : Room} (h1 : t0 + R.cells = fxmt G) (h2 : u0 + R.slots = fxmu G) (h3 : t0 + cells = fxt w) (h4 : u0 + slots = fxu w) (h5 : fxt w ≤ fxmt G) (h6 : fxu w ≤ fxmu G) : cells + (fxmt G - fxt w) ≤ R.cells ∧ slots + (fxmu G - fxu w) ≤ R.slots := by
  constructor <;> omega
/-- behind any invoke that has been linked -/
theorem fx_call {p : Program} {e : Env} {R : Room} {s : State} {m : MethodId} {args : Array Value} {below : List Frame} {meth : Method} {c : Code} {t0 u0 : Nat} (C : fxC G d cc nL own nm ret hh (p, e, R, s, m, args, below, meth, c, t0, u0)) {d' maxL : Nat} {y : MethodName} {as : List Value} {P : Outcome → fxW → Prop} (hM : fxM G d' y as w P) (hdd : d' < d) (hml0 : maxL ≤ 19) (hini : Cond.initialized y.cls ∈ fxTW) {ig : Instr} {len : Nat} (hd : decode cc pc = .ok (ig, len)) {rest : List Value} (hst : (rest.map fun v => v.category).sum ≤ 8)
    (k1 : ∀ v w', P (.returned v) w' → fxR G nL (p, e, R, s, m, args, below, meth, c, t0, u0) Q w' (pc + len) ls (v.toList ++ rest)) (k2 : ∀ a w', P (.threw a) w' → fxRt G nL (p, e, R, s, m, args, below, meth, c, t0, u0) Q w' pc ls rest a)
    {H : Heap} {locs : List Loc} {sl : Array Slot} {cells slots : Nat} (h1 : fxH G w H) (h2 : ∀ q ∈ locs, fxb G ≤ q.base) (h3 : lv_has sl nL ls) (h4 : t0 + cells = fxt w) (h5 : u0 + slots = fxu w) {T : State} (hT : T.heap = H) (X : Stand p (fxl G) e R s m args below meth c T locs cells slots) {mk : MethodId} (hn : s.methodNamed? y = some mk) (hcode : ∃ (methY : Method) (cY : Code), s.vm.method? mk = some methY ∧ methY.code = some cY ∧ cY.maxLocals = maxL) :
    ∃ t, Steps p.tables e below (doInvoke e (T.setTop (F0 m pc sl rest)) [] mk as.toArray).1 t ∧ Q t := by
  obtain ⟨hx, hb, hml, hown, hts, hV, hrt, hlk, hnmn, hsz, hRc, hRs, hfr, hlo, hbt, hex, hadm⟩ := C
  subst hb
  subst hT
  obtain ⟨r1, r2⟩ := fx_room hRc hRs h4 h5 h1.2.2.2.1 h1.2.2.2.2.1
  obtain ⟨methY, cY, hm1, hm2, hm3⟩ := hcode
  obtain ⟨o, w', T', L, k, n, hP, hH', X', hL, hk, hn', s1, s2⟩ := fx_back X hM h1 (hV.moved X.warmed) hts (X.named hn) ⟨methY, cY, by rw [X.warmed.alike.method?]; exact hm1, hm2, hm3⟩ hini (by omega) (by omega) r1 r2 (g := F0 m pc sl rest) rfl (by rw [hml]; exact h3.1) (by show 2 * 0 + (rest.map fun v => v.category).sum ≤ 8; omega) hd
  have hL' : ∀ q ∈ locs ++ L, fxb G ≤ q.base := fun q hq => by
    rcases List.mem_append.mp hq with h | h
    · exact h2 q h
    · exact hL q h
  cases o with
  | returned v =>
    obtain ⟨t, a1, b1⟩ := k1 v w' hP T'.heap (locs ++ L) sl (cells + k) (slots + n) hH' hL' h3 (by show t0 + (cells + k) = _; omega) (by show u0 + (slots + n) = _; omega) T' rfl X'
    exact ⟨t, (s1 v rfl).trans a1, b1⟩
  | threw a =>
    obtain ⟨t, a1, b1⟩ := k2 a w' hP T'.heap (locs ++ L) sl (cells + k) (slots + n) hH' hL' h3 (by show t0 + (cells + k) = _; omega) (by show u0 + (slots + n) = _; omega) T' rfl X'
    exact ⟨t, (s2 a rfl).trans a1, b1⟩

theorem r_callV (C : fxC G d cc nL own nm ret hh x) {y : MethodName} {ccy : ByteArray} {rety : Option FieldType} {hhy : List (Nat × Nat × Nat × Nat)} {T0 : u_T} {N0 idx b ci n0 d' maxL : Nat} {Cn : String} {As rest : List Value} {P : Outcome → fxW → Prop} (hd : decode cc pc = .ok (.invokevirtual idx, 3)) (hl : Cond.methodLink own idx y ∈ fxTW) (hin : Cond.instanceMethod y ∈ fxTW) (hse : Cond.selects Cn y y ∈ fxTW) (hcd : fxcode y ccy maxL rety hhy ∈ fxTW) (hini : Cond.initialized y.cls ∈ fxTW) (hy : y.cls ≠ "java/lang/invoke/MethodHandle" ∧ y.cls ≠ "java/lang/invoke/VarHandle") (hnp : (parseMethodDescriptor y.desc).map (fun q => q.parameters.length) = some As.length) (hml0 : maxL ≤ 19) (hci : ci < 100) (hc : fxCl[ci]? = some (Cn, T0, N0)) (hb9 : fxk w b = some (ci, n0)) (hM : fxM G d' y (.ref b :: As) w P) (hdd : d' < d) (hst : (rest.map fun v => v.category).sum ≤ 8) (hstk : st = As.reverse ++ .ref b :: rest) (k1 : ∀ v w', P (.returned v) w' → fxR G nL x Q w' (pc + 3) ls (v.toList ++ rest)) (k2 : ∀ a w', P (.threw a) w' → fxRt G nL x Q w' pc ls rest a) : fxR G nL x Q w pc ls st := by
  obtain ⟨p, e, R, s, m, args, below, meth, c, t0, u0⟩ := x
  have C' := C
  obtain ⟨hx, hb, hml, hown, hts, hV, C2⟩ := C
  subst hstk
  have hlen : ∀ sig, parseMethodDescriptor y.desc = some sig → As.length = sig.parameters.length := fun sig h => by
    rw [h] at hnp; exact (Option.some.inj hnp).symm
  intro H locs sl cells slots h1 h2 h3 h4 h5 T hT X
  obtain ⟨-, r, hr, cell, q1, q2, q3, q4⟩ := h1.obj hb9 hci
  cases hr.symm.trans hc
  have hcls : s.vm.findClass Cn = some cell.cls := by rw [q2]; exact (hV.1.1 ci _ hc).2.1
  obtain ⟨mk, methM, hnamed, hmethM, hstM, habM⟩ := Cond.instanceMethod_spec (hts _ hin)
  obtain ⟨methM', cM, hmethM', hcM, -, hmL, -, -, -, hsigM⟩ := fxcode_spec hnamed (hts _ hcd)
  cases hmethM.symm.trans hmethM'
  obtain ⟨c2, r2, m2, g1, g2, g3, g4, kP, hkP, hkPi⟩ := Cond.selects_spec (hts _ hse)
  cases hcls.symm.trans g1
  cases (State.methodFound?_of_named hnamed hy).symm.trans g2
  cases hnamed.symm.trans g3
  have hselP : selectMethod e.platform s.vm cell.cls mk = .method mk := by rw [Launch.admits_selectMethod X.admits]; exact g4
  obtain ⟨vm₁, X₁, hstep₁⟩ := X.invokevirtual hx hown (hts _ hl) hnamed hmethM hstM hkP hkPi hy (a := b) (cell := cell) (by rw [hT]; exact q1)
    (fun z h => by rw [q3] at h; cases h) hselP hmethM habM hkP hkPi (g := F0 m pc sl (As.reverse ++ .ref b :: rest)) rfl (argsL := As) (rest := rest) (hlen _ hsigM) rfl (by rw [hb]; exact hd)
  obtain ⟨t, a1, b1⟩ := fx_call C' hM hdd hml0 hini hd hst k1 k2 h1 h2 h3 h4 h5 (T := T.setVm vm₁) hT X₁ hnamed ⟨methM, cM, hmethM, hcM, hmL⟩
  exact ⟨t, hstep₁ _ fun acts => by rw [doInvoke_state]; exact a1, b1⟩
theorem r_callS (C : fxC G d cc nL own nm ret hh x) {y : MethodName} {ccy : ByteArray} {rety : Option FieldType} {hhy : List (Nat × Nat × Nat × Nat)} {idx d' maxL : Nat} {As rest : List Value} {P : Outcome → fxW → Prop} (hd : decode cc pc = .ok (.invokestatic idx, 3)) (hl : Cond.methodLink own idx y ∈ fxTW) (hst0 : Cond.static y ∈ fxTW) (hcd : fxcode y ccy maxL rety hhy ∈ fxTW) (hini : Cond.initialized y.cls ∈ fxTW) (hy : y.cls ≠ "java/lang/invoke/MethodHandle" ∧ y.cls ≠ "java/lang/invoke/VarHandle") (hnp : (parseMethodDescriptor y.desc).map (fun q => q.parameters.length) = some As.length) (hml0 : maxL ≤ 19) (hM : fxM G d' y As w P) (hdd : d' < d) (hst : (rest.map fun v => v.category).sum ≤ 8) (hstk : st = As.reverse ++ rest) (k1 : ∀ v w', P (.returned v) w' → fxR G nL x Q w' (pc + 3) ls (v.toList ++ rest)) (k2 : ∀ a w', P (.threw a) w' → fxRt G nL x Q w' pc ls rest a) : fxR G nL x Q w pc ls st := by
  obtain ⟨p, e, R, s, m, args, below, meth, c, t0, u0⟩ := x
  have C' := C
  obtain ⟨hx, hb, hml, hown, hts, hV, C2⟩ := C
  subst hstk
  have hlen : ∀ sig, parseMethodDescriptor y.desc = some sig → As.length = sig.parameters.length := fun sig h => by
    rw [h] at hnp; exact (Option.some.inj hnp).symm
  intro H locs sl cells slots h1 h2 h3 h4 h5 T hT X
  obtain ⟨mk, hnamed⟩ := fxcode_named (hts _ hcd)
  obtain ⟨methM, cM, hmethM, hcM, -, hmL, -, -, -, hsigM⟩ := fxcode_spec hnamed (hts _ hcd)
  have hstatic : methM.isStatic = true := Cond.static_spec hnamed hmethM (hts _ hst0)
  obtain ⟨kP, hkP, -⟩ := className_of_methodNamed hnamed
  have hinitP : kP.init = .initialized := Cond.initialized_spec (findClass_of_methodNamed hnamed) hkP (hts _ hini)
  obtain ⟨vm₁, X₁, hstep₁⟩ := X.invokestatic hx hown (hts _ hl) hnamed hmethM hstatic hkP hinitP hy (g := F0 m pc sl (As.reverse ++ rest)) rfl (argsL := As) (rest := rest) (hlen _ hsigM) rfl (by rw [hb]; exact hd)
  obtain ⟨t, a1, b1⟩ := fx_call C' hM hdd hml0 hini hd hst k1 k2 h1 h2 h3 h4 h5 (T := T.setVm vm₁) hT X₁ hnamed ⟨methM, cM, hmethM, hcM, hmL⟩
  exact ⟨t, hstep₁ _ fun acts => by rw [doInvoke_state]; exact a1, b1⟩
theorem r_callI (C : fxC G d cc nL own nm ret hh x) {y : MethodName} {ccy : ByteArray} {idx b d' maxL : Nat} {As rest : List Value} {P : Outcome → fxW → Prop} (hd : decode cc pc = .ok (.invokespecial idx, 3)) (hl : Cond.methodLink own idx y ∈ fxTW) (hy1 : y.name = "<init>") (hin : Cond.instanceMethod y ∈ fxTW) (hcd : Cond.code y ccy maxL none ∈ fxTW) (hini : Cond.initialized y.cls ∈ fxTW) (hy : y.cls ≠ "java/lang/invoke/MethodHandle" ∧ y.cls ≠ "java/lang/invoke/VarHandle") (hnp : (parseMethodDescriptor y.desc).map (fun q => q.parameters.length) = some As.length) (hml0 : maxL ≤ 19) (hM : fxM G d' y (.ref b :: As) w P) (hdd : d' < d) (hst : (rest.map fun v => v.category).sum ≤ 8) (hstk : st = As.reverse ++ .ref b :: rest) (k1 : ∀ v w', P (.returned v) w' → fxR G nL x Q w' (pc + 3) ls (v.toList ++ rest)) (k2 : ∀ a w', P (.threw a) w' → fxRt G nL x Q w' pc ls rest a) : fxR G nL x Q w pc ls st := by
  obtain ⟨p, e, R, s, m, args, below, meth, c, t0, u0⟩ := x
  have C' := C
  obtain ⟨hx, hb, hml, hown, hts, hV, C2⟩ := C
  subst hstk
  have hlen : ∀ sig, parseMethodDescriptor y.desc = some sig → As.length = sig.parameters.length := fun sig h => by
    rw [h] at hnp; exact (Option.some.inj hnp).symm
  intro H locs sl cells slots h1 h2 h3 h4 h5 T hT X
  have hpl : e.platform.magicAccessors = ({} : Platform).magicAccessors := by rw [X.admits.platform]
  obtain ⟨mk, methM, cM, kP, vm₁, hnamed, hmethM, hcodeM, -, hlocalsM, -, hkP, -, hW₁, hstep₁⟩ := Steps.initColdArgs (e := e) X.here hx X.warmed hpl hown hy1 hy (hts _ hl) (hts _ hin) (hts _ hcd) (f := F0 m pc sl (As.reverse ++ .ref b :: rest)) rfl hlen rfl (by rw [hb]; exact hd)
  have X₁ := X.noted hW₁
  obtain ⟨t, a1, b1⟩ := fx_call C' hM hdd hml0 hini hd hst k1 k2 h1 h2 h3 h4 h5 (T := T.setVm vm₁) hT X₁ hnamed ⟨methM, cM, hmethM, hcodeM, hlocalsM⟩
  exact ⟨t, hstep₁ _ fun acts => by rw [doInvoke_state]; exact a1, b1⟩
theorem r_callVN (C : fxC G d cc nL own nm ret hh x) {y : MethodName} {ccy : ByteArray} {rety : Option FieldType} {hhy : List (Nat × Nat × Nat × Nat)} {host : String} {T0 : u_T} {N0 idx b ci n0 d' maxL : Nat} {Cn : String} {As rest : List Value} {P : Outcome → fxW → Prop} (hd : decode cc pc = .ok (.invokevirtual idx, 3)) (hl : Cond.methodLinkNest own idx y host ∈ fxTW) (hin : Cond.instanceMethod y ∈ fxTW) (hse : Cond.selects Cn y y ∈ fxTW) (hcd : fxcode y ccy maxL rety hhy ∈ fxTW) (hini : Cond.initialized y.cls ∈ fxTW) (hy : y.cls ≠ "java/lang/invoke/MethodHandle" ∧ y.cls ≠ "java/lang/invoke/VarHandle") (hnp : (parseMethodDescriptor y.desc).map (fun q => q.parameters.length) = some As.length) (hml0 : maxL ≤ 19) (hci : ci < 100) (hc : fxCl[ci]? = some (Cn, T0, N0)) (hb9 : fxk w b = some (ci, n0)) (hM : fxM G d' y (.ref b :: As) w P) (hdd : d' < d) (hst : (rest.map fun v => v.category).sum ≤ 8) (hstk : st = As.reverse ++ .ref b :: rest) (k1 : ∀ v w', P (.returned v) w' → fxR G nL x Q w' (pc + 3) ls (v.toList ++ rest)) (k2 : ∀ a w', P (.threw a) w' → fxRt G nL x Q w' pc ls rest a) : fxR G nL x Q w pc ls st := by
  obtain ⟨p, e, R, s, m, args, below, meth, c, t0, u0⟩ := x
  have C' := C
  obtain ⟨hx, hb, hml, hown, hts, hV, C2⟩ := C
  subst hstk
  have hlen : ∀ sig, parseMethodDescriptor y.desc = some sig → As.length = sig.parameters.length := fun sig h => by
    rw [h] at hnp; exact (Option.some.inj hnp).symm
  intro H locs sl cells slots h1 h2 h3 h4 h5 T hT X
  obtain ⟨-, r, hr, cell, q1, q2, q3, q4⟩ := h1.obj hb9 hci
  cases hr.symm.trans hc
  have hcls : s.vm.findClass Cn = some cell.cls := by rw [q2]; exact (hV.1.1 ci _ hc).2.1
  obtain ⟨mk, methM, hnamed, hmethM, hstM, habM⟩ := Cond.instanceMethod_spec (hts _ hin)
  obtain ⟨methM', cM, hmethM', hcM, -, hmL, -, -, -, hsigM⟩ := fxcode_spec hnamed (hts _ hcd)
  cases hmethM.symm.trans hmethM'
  obtain ⟨c2, r2, m2, g1, g2, g3, g4, kP, hkP, hkPi⟩ := Cond.selects_spec (hts _ hse)
  cases hcls.symm.trans g1
  cases (State.methodFound?_of_named hnamed hy).symm.trans g2
  cases hnamed.symm.trans g3
  have hselP : selectMethod e.platform s.vm cell.cls mk = .method mk := by rw [Launch.admits_selectMethod X.admits]; exact g4
  obtain ⟨vm₁, X₁, hstep₁⟩ := X.invokevirtualNest hx hown (hts _ hl) hnamed hmethM hstM hkP hkPi hy (a := b) (cell := cell) (by rw [hT]; exact q1)
    (fun z h => by rw [q3] at h; cases h) hselP hmethM habM hkP hkPi (g := F0 m pc sl (As.reverse ++ .ref b :: rest)) rfl (argsL := As) (rest := rest) (hlen _ hsigM) rfl (by rw [hb]; exact hd)
  obtain ⟨t, a1, b1⟩ := fx_call C' hM hdd hml0 hini hd hst k1 k2 h1 h2 h3 h4 h5 (T := T.setVm vm₁) hT X₁ hnamed ⟨methM, cM, hmethM, hcM, hmL⟩
  exact ⟨t, hstep₁ _ fun acts => by rw [doInvoke_state]; exact a1, b1⟩
theorem r_callSN (C : fxC G d cc nL own nm ret hh x) {y : MethodName} {ccy : ByteArray} {rety : Option FieldType} {hhy : List (Nat × Nat × Nat × Nat)} {host : String} {idx d' maxL : Nat} {As rest : List Value} {P : Outcome → fxW → Prop} (hd : decode cc pc = .ok (.invokestatic idx, 3)) (hl : Cond.methodLinkNest own idx y host ∈ fxTW) (hst0 : Cond.static y ∈ fxTW) (hcd : fxcode y ccy maxL rety hhy ∈ fxTW) (hini : Cond.initialized y.cls ∈ fxTW) (hy : y.cls ≠ "java/lang/invoke/MethodHandle" ∧ y.cls ≠ "java/lang/invoke/VarHandle") (hnp : (parseMethodDescriptor y.desc).map (fun q => q.parameters.length) = some As.length) (hml0 : maxL ≤ 19) (hM : fxM G d' y As w P) (hdd : d' < d) (hst : (rest.map fun v => v.category).sum ≤ 8) (hstk : st = As.reverse ++ rest) (k1 : ∀ v w', P (.returned v) w' → fxR G nL x Q w' (pc + 3) ls (v.toList ++ rest)) (k2 : ∀ a w', P (.threw a) w' → fxRt G nL x Q w' pc ls rest a) : fxR G nL x Q w pc ls st := by
  obtain ⟨p, e, R, s, m, args, below, meth, c, t0, u0⟩ := x
  have C' := C
  obtain ⟨hx, hb, hml, hown, hts, hV, C2⟩ := C
  subst hstk
  have hlen : ∀ sig, parseMethodDescriptor y.desc = some sig → As.length = sig.parameters.length := fun sig h => by
    rw [h] at hnp; exact (Option.some.inj hnp).symm
  intro H locs sl cells slots h1 h2 h3 h4 h5 T hT X
  obtain ⟨mk, hnamed⟩ := fxcode_named (hts _ hcd)
  obtain ⟨methM, cM, hmethM, hcM, -, hmL, -, -, -, hsigM⟩ := fxcode_spec hnamed (hts _ hcd)
  have hstatic : methM.isStatic = true := Cond.static_spec hnamed hmethM (hts _ hst0)
  obtain ⟨kP, hkP, -⟩ := className_of_methodNamed hnamed
  have hinitP : kP.init = .initialized := Cond.initialized_spec (findClass_of_methodNamed hnamed) hkP (hts _ hini)
  obtain ⟨vm₁, X₁, hstep₁⟩ := X.invokestaticNest hx hown (hts _ hl) hnamed hmethM hstatic hkP hinitP hy (g := F0 m pc sl (As.reverse ++ rest)) rfl (argsL := As) (rest := rest) (hlen _ hsigM) rfl (by rw [hb]; exact hd)
  obtain ⟨t, a1, b1⟩ := fx_call C' hM hdd hml0 hini hd hst k1 k2 h1 h2 h3 h4 h5 (T := T.setVm vm₁) hT X₁ hnamed ⟨methM, cM, hmethM, hcM, hmL⟩
  exact ⟨t, hstep₁ _ fun acts => by rw [doInvoke_state]; exact a1, b1⟩
theorem r_callIN (C : fxC G d cc nL own nm ret hh x) {y : MethodName} {ccy : ByteArray} {host : String} {idx b d' maxL : Nat} {As rest : List Value} {P : Outcome → fxW → Prop} (hd : decode cc pc = .ok (.invokespecial idx, 3)) (hl : Cond.methodLinkNest own idx y host ∈ fxTW) (hy1 : y.name = "<init>") (hin : Cond.instanceMethod y ∈ fxTW) (hcd : Cond.code y ccy maxL none ∈ fxTW) (hini : Cond.initialized y.cls ∈ fxTW) (hy : y.cls ≠ "java/lang/invoke/MethodHandle" ∧ y.cls ≠ "java/lang/invoke/VarHandle") (hnp : (parseMethodDescriptor y.desc).map (fun q => q.parameters.length) = some As.length) (hml0 : maxL ≤ 19) (hM : fxM G d' y (.ref b :: As) w P) (hdd : d' < d) (hst : (rest.map fun v => v.category).sum ≤ 8) (hstk : st = As.reverse ++ .ref b :: rest) (k1 : ∀ v w', P (.returned v) w' → fxR G nL x Q w' (pc + 3) ls (v.toList ++ rest)) (k2 : ∀ a w', P (.threw a) w' → fxRt G nL x Q w' pc ls rest a) : fxR G nL x Q w pc ls st := by
  obtain ⟨p, e, R, s, m, args, below, meth, c, t0, u0⟩ := x
  have C' := C
  obtain ⟨hx, hb, hml, hown, hts, hV, C2⟩ := C
  subst hstk
  have hlen : ∀ sig, parseMethodDescriptor y.desc = some sig → As.length = sig.parameters.length := fun sig h => by
    rw [h] at hnp; exact (Option.some.inj hnp).symm
  intro H locs sl cells slots h1 h2 h3 h4 h5 T hT X
  have hpl : e.platform.magicAccessors = ({} : Platform).magicAccessors := by rw [X.admits.platform]
  obtain ⟨mk, methM, cM, kP, vm₁, hnamed, hmethM, hcodeM, -, hlocalsM, -, hkP, -, hW₁, hstep₁⟩ := Steps.initColdArgsNest (e := e) X.here hx X.warmed hpl hown hy1 hy (hts _ hl) (hts _ hin) (hts _ hcd) (f := F0 m pc sl (As.reverse ++ .ref b :: rest)) rfl hlen rfl (by rw [hb]; exact hd)
  have X₁ := X.noted hW₁
  obtain ⟨t, a1, b1⟩ := fx_call C' hM hdd hml0 hini hd hst k1 k2 h1 h2 h3 h4 h5 (T := T.setVm vm₁) hT X₁ hnamed ⟨methM, cM, hmethM, hcodeM, hlocalsM⟩
  exact ⟨t, hstep₁ _ fun acts => by rw [doInvoke_state]; exact a1, b1⟩
end FXC
end
section
/-! INTS AS INTEGERS: zi e is the Java int of the Int e; within bounds compares are those of the integers -/
abbrev zi (e : Int) : Value := .int (Int32.ofInt e)
def zok (a : Int) : Prop := -2147483648 ≤ a ∧ a < 2147483648
theorem zok_toInt {a : Int} (h : zok a) : (Int32.ofInt a).toInt = a := by
  rw [Int32.toInt_ofInt, show Int32.size = 4294967296 from rfl]
  obtain ⟨h1, h2⟩ := h
  exact Int.bmod_eq_of_le (by omega) (by omega)
theorem zi_all (x : Int32) : x = Int32.ofInt x.toInt := by simp
theorem zok_all (x : Int32) : zok x.toInt := ⟨by have := Int32.le_toInt x; simpa using this, by have := Int32.toInt_lt x; simpa using this⟩
theorem z_add (a b : Int) : Int32.ofInt a + Int32.ofInt b = Int32.ofInt (a + b) := (Int32.ofInt_add a b).symm
theorem z_sub (a b : Int) : Int32.ofInt a - Int32.ofInt b = Int32.ofInt (a - b) := (Int32.ofInt_sub a b).symm
theorem z_mul (a b : Int) : Int32.ofInt a * Int32.ofInt b = Int32.ofInt (a * b) := (Int32.ofInt_mul a b).symm
theorem z_lt {a b : Int} (ha : zok a) (hb : zok b) : Int32.ofInt a < Int32.ofInt b ↔ a < b := by rw [Int32.lt_iff_toInt_lt, zok_toInt ha, zok_toInt hb]
theorem z_le {a b : Int} (ha : zok a) (hb : zok b) : Int32.ofInt a ≤ Int32.ofInt b ↔ a ≤ b := by rw [Int32.le_iff_toInt_le, zok_toInt ha, zok_toInt hb]
theorem z_eq {a b : Int} (ha : zok a) (hb : zok b) : Int32.ofInt a = Int32.ofInt b ↔ a = b := by
  constructor
  · intro h
    rw [← zok_toInt ha, ← zok_toInt hb, h]
  · intro h; rw [h]
theorem z_0 : (0 : Int32) = Int32.ofInt 0 := rfl
theorem z_nat (n : Nat) : Int32.ofNat n = Int32.ofInt (n : Int) := by
  apply Int32.toInt_inj.mp
  rw [Int32.toInt_ofNat', Int32.toInt_ofInt]
theorem z_in {j : Int} {k n : Nat} (hj : j = (k : Int)) (hk : k < n) (hn : n < 2147483648) : vp_in (Int32.ofInt j) n ∧ (Int32.ofInt j).toNatClampNeg = k := by
  subst hj
  rw [← z_nat]
  exact ⟨vp_in_nI hk hn, nI_clamp (by omega)⟩
theorem z_l {a : Int} (h : zok a) : (Int32.ofInt a).toInt64 = Int64.ofInt a := by
  apply Int64.toInt_inj.mp
  obtain ⟨h1, h2⟩ := h
  rw [Int32.toInt_toInt64, zok_toInt ⟨h1, h2⟩, Int64.toInt_ofInt, show Int64.size = 18446744073709551616 from rfl]
  exact (Int.bmod_eq_of_le (by omega) (by omega)).symm
section FXZ
variable {G : fxG} {d nL : Nat} {cc : ByteArray} {own nm : String} {ret : Option FieldType} {hh : List (Nat × Nat × Nat × Nat)} {x : fxX} {Q : State → Prop} {w : fxW} {pc : Nat} {ls : List (Nat × Value)} {st : List Value}

theorem zr_iadd (C : fxC G d cc nL own nm ret hh x) {a b : Int} (hd : decode cc pc = .ok (.iadd, 1)) (k : fxR G nL x Q w (pc + 1) ls (zi (a + b) :: st)) : fxR G nL x Q w pc ls (zi b :: zi a :: st) := r_iadd C hd (by rw [z_add]; exact k)
theorem zr_isub (C : fxC G d cc nL own nm ret hh x) {a b : Int} (hd : decode cc pc = .ok (.isub, 1)) (k : fxR G nL x Q w (pc + 1) ls (zi (a - b) :: st)) : fxR G nL x Q w pc ls (zi b :: zi a :: st) := r_isub C hd (by rw [z_sub]; exact k)
theorem zr_imul (C : fxC G d cc nL own nm ret hh x) {a b : Int} (hd : decode cc pc = .ok (.imul, 1)) (k : fxR G nL x Q w (pc + 1) ls (zi (a * b) :: st)) : fxR G nL x Q w pc ls (zi b :: zi a :: st) := r_imul C hd (by rw [z_mul]; exact k)
theorem zr_iinc (C : fxC G d cc nL own nm ret hh x) {i : Nat} {n y : Int} {ls' : List (Nat × Value)} (hd : decode cc pc = .ok (.iinc i n, 3)) (hy : fxL ls i = some (zi y)) (hn : i < nL) (hl : fxS1 i (zi (y + n)) ls = ls') (k : fxR G nL x Q w (pc + 3) ls' st) : fxR G nL x Q w pc ls st := r_iinc C hd hy (z_add y n) hn hl k
theorem zr_icmp_eq (C : fxC G d cc nL own nm ret hh x) {a b : Int} {off : Int} {tgt : Nat} (hd : decode cc pc = .ok (.if_icmp .eq off, 3)) (ht : (pc : Int) + off = (tgt : Int)) (ha : zok a) (hb : zok b) (k1 : a = b → fxR G nL x Q w tgt ls st) (k2 : ¬ a = b → fxR G nL x Q w (pc + 3) ls st) : fxR G nL x Q w pc ls (zi b :: zi a :: st) := r_icmp_eq C hd ht (fun h => k1 ((z_eq ha hb).mp h)) (fun h => k2 (fun q => h ((z_eq ha hb).mpr q)))
theorem zr_if_eq (C : fxC G d cc nL own nm ret hh x) {a : Int} {off : Int} {tgt : Nat} (hd : decode cc pc = .ok (.ifCond .eq off, 3)) (ht : (pc : Int) + off = (tgt : Int)) (ha : zok a) (k1 : a = 0 → fxR G nL x Q w tgt ls st) (k2 : ¬ a = 0 → fxR G nL x Q w (pc + 3) ls st) : fxR G nL x Q w pc ls (zi a :: st) := by
  have hb : zok 0 := ⟨by decide, by decide⟩
  exact r_if_eq C hd ht (fun h => k1 ((z_eq ha hb).mp h)) (fun h => k2 (fun q => h ((z_eq ha hb).mpr q)))
theorem zr_icmp_ne (C : fxC G d cc nL own nm ret hh x) {a b : Int} {off : Int} {tgt : Nat} (hd : decode cc pc = .ok (.if_icmp .ne off, 3)) (ht : (pc : Int) + off = (tgt : Int)) (ha : zok a) (hb : zok b) (k1 : ¬ a = b → fxR G nL x Q w tgt ls st) (k2 : a = b → fxR G nL x Q w (pc + 3) ls st) : fxR G nL x Q w pc ls (zi b :: zi a :: st) := r_icmp_ne C hd ht (fun h => k1 ((not_congr (z_eq ha hb)).mp h)) (fun h => k2 ((z_eq ha hb).mp h))
theorem zr_if_ne (C : fxC G d cc nL own nm ret hh x) {a : Int} {off : Int} {tgt : Nat} (hd : decode cc pc = .ok (.ifCond .ne off, 3)) (ht : (pc : Int) + off = (tgt : Int)) (ha : zok a) (k1 : ¬ a = 0 → fxR G nL x Q w tgt ls st) (k2 : a = 0 → fxR G nL x Q w (pc + 3) ls st) : fxR G nL x Q w pc ls (zi a :: st) := by
  have hb : zok 0 := ⟨by decide, by decide⟩
  exact r_if_ne C hd ht (fun h => k1 ((not_congr (z_eq ha hb)).mp h)) (fun h => k2 ((z_eq ha hb).mp h))
theorem zr_icmp_lt (C : fxC G d cc nL own nm ret hh x) {a b : Int} {off : Int} {tgt : Nat} (hd : decode cc pc = .ok (.if_icmp .lt off, 3)) (ht : (pc : Int) + off = (tgt : Int)) (ha : zok a) (hb : zok b) (k1 : a < b → fxR G nL x Q w tgt ls st) (k2 : ¬ a < b → fxR G nL x Q w (pc + 3) ls st) : fxR G nL x Q w pc ls (zi b :: zi a :: st) := r_icmp_lt C hd ht (fun h => k1 ((z_lt ha hb).mp h)) (fun h => k2 (fun q => h ((z_lt ha hb).mpr q)))
theorem zr_if_lt (C : fxC G d cc nL own nm ret hh x) {a : Int} {off : Int} {tgt : Nat} (hd : decode cc pc = .ok (.ifCond .lt off, 3)) (ht : (pc : Int) + off = (tgt : Int)) (ha : zok a) (k1 : a < 0 → fxR G nL x Q w tgt ls st) (k2 : ¬ a < 0 → fxR G nL x Q w (pc + 3) ls st) : fxR G nL x Q w pc ls (zi a :: st) := by
  have hb : zok 0 := ⟨by decide, by decide⟩
  exact r_if_lt C hd ht (fun h => k1 ((z_lt ha hb).mp h)) (fun h => k2 (fun q => h ((z_lt ha hb).mpr q)))
theorem zr_icmp_ge (C : fxC G d cc nL own nm ret hh x) {a b : Int} {off : Int} {tgt : Nat} (hd : decode cc pc = .ok (.if_icmp .ge off, 3)) (ht : (pc : Int) + off = (tgt : Int)) (ha : zok a) (hb : zok b) (k1 : b ≤ a → fxR G nL x Q w tgt ls st) (k2 : ¬ b ≤ a → fxR G nL x Q w (pc + 3) ls st) : fxR G nL x Q w pc ls (zi b :: zi a :: st) := r_icmp_ge C hd ht (fun h => k1 ((z_le hb ha).mp h)) (fun h => k2 (fun q => h ((z_le hb ha).mpr q)))
theorem zr_if_ge (C : fxC G d cc nL own nm ret hh x) {a : Int} {off : Int} {tgt : Nat} (hd : decode cc pc = .ok (.ifCond .ge off, 3)) (ht : (pc : Int) + off = (tgt : Int)) (ha : zok a) (k1 : 0 ≤ a → fxR G nL x Q w tgt ls st) (k2 : ¬ 0 ≤ a → fxR G nL x Q w (pc + 3) ls st) : fxR G nL x Q w pc ls (zi a :: st) := by
  have hb : zok 0 := ⟨by decide, by decide⟩
  exact r_if_ge C hd ht (fun h => k1 ((z_le hb ha).mp h)) (fun h => k2 (fun q => h ((z_le hb ha).mpr q)))
theorem zr_icmp_gt (C : fxC G d cc nL own nm ret hh x) {a b : Int} {off : Int} {tgt : Nat} (hd : decode cc pc = .ok (.if_icmp .gt off, 3)) (ht : (pc : Int) + off = (tgt : Int)) (ha : zok a) (hb : zok b) (k1 : b < a → fxR G nL x Q w tgt ls st) (k2 : ¬ b < a → fxR G nL x Q w (pc + 3) ls st) : fxR G nL x Q w pc ls (zi b :: zi a :: st) := r_icmp_gt C hd ht (fun h => k1 ((z_lt hb ha).mp h)) (fun h => k2 (fun q => h ((z_lt hb ha).mpr q)))
theorem zr_if_gt (C : fxC G d cc nL own nm ret hh x) {a : Int} {off : Int} {tgt : Nat} (hd : decode cc pc = .ok (.ifCond .gt off, 3)) (ht : (pc : Int) + off = (tgt : Int)) (ha : zok a) (k1 : 0 < a → fxR G nL x Q w tgt ls st) (k2 : ¬ 0 < a → fxR G nL x Q w (pc + 3) ls st) : fxR G nL x Q w pc ls (zi a :: st) := by
  have hb : zok 0 := ⟨by decide, by decide⟩
  exact r_if_gt C hd ht (fun h => k1 ((z_lt hb ha).mp h)) (fun h => k2 (fun q => h ((z_lt hb ha).mpr q)))
theorem zr_icmp_le (C : fxC G d cc nL own nm ret hh x) {a b : Int} {off : Int} {tgt : Nat} (hd : decode cc pc = .ok (.if_icmp .le off, 3)) (ht : (pc : Int) + off = (tgt : Int)) (ha : zok a) (hb : zok b) (k1 : a ≤ b → fxR G nL x Q w tgt ls st) (k2 : ¬ a ≤ b → fxR G nL x Q w (pc + 3) ls st) : fxR G nL x Q w pc ls (zi b :: zi a :: st) := r_icmp_le C hd ht (fun h => k1 ((z_le ha hb).mp h)) (fun h => k2 (fun q => h ((z_le ha hb).mpr q)))
theorem zr_if_le (C : fxC G d cc nL own nm ret hh x) {a : Int} {off : Int} {tgt : Nat} (hd : decode cc pc = .ok (.ifCond .le off, 3)) (ht : (pc : Int) + off = (tgt : Int)) (ha : zok a) (k1 : a ≤ 0 → fxR G nL x Q w tgt ls st) (k2 : ¬ a ≤ 0 → fxR G nL x Q w (pc + 3) ls st) : fxR G nL x Q w pc ls (zi a :: st) := by
  have hb : zok 0 := ⟨by decide, by decide⟩
  exact r_if_le C hd ht (fun h => k1 ((z_le ha hb).mp h)) (fun h => k2 (fun q => h ((z_le ha hb).mpr q)))
theorem zr_iaload (C : fxC G d cc nL own nm ret hh x) {a t n k : Nat} {j : Int} {v : Value} (hd : decode cc pc = .ok (.iaload, 1)) (ht : t < 100) (hty : fxAr[t]? = some .int) (ha : fxk w a = some (100 + t, n) ∨ fxk w a = some (200 + t, n)) (hj : j = (k : Int)) (hk : k < n) (hn : n < 2147483648) (hv : fxe w t a k = v) (kk : fxR G nL x Q w (pc + 1) ls (v :: st)) : fxR G nL x Q w pc ls (zi j :: .ref a :: st) := r_iaload C hd ht hty ha (z_in hj hk hn).1 (by rw [(z_in hj hk hn).2]; exact hv) kk
theorem zr_laload (C : fxC G d cc nL own nm ret hh x) {a t n k : Nat} {j : Int} {v : Value} (hd : decode cc pc = .ok (.laload, 1)) (ht : t < 100) (hty : fxAr[t]? = some .long) (ha : fxk w a = some (100 + t, n) ∨ fxk w a = some (200 + t, n)) (hj : j = (k : Int)) (hk : k < n) (hn : n < 2147483648) (hv : fxe w t a k = v) (kk : fxR G nL x Q w (pc + 1) ls (v :: st)) : fxR G nL x Q w pc ls (zi j :: .ref a :: st) := r_laload C hd ht hty ha (z_in hj hk hn).1 (by rw [(z_in hj hk hn).2]; exact hv) kk
theorem zr_aaload (C : fxC G d cc nL own nm ret hh x) {a t n k : Nat} {j : Int} {v : Value} {ty : FieldType} (hd : decode cc pc = .ok (.aaload, 1)) (ht : t < 100) (hty : fxAr[t]? = some ty) (href : ty.isReference = true) (ha : fxk w a = some (100 + t, n) ∨ fxk w a = some (200 + t, n)) (hj : j = (k : Int)) (hk : k < n) (hn : n < 2147483648) (hv : fxe w t a k = v) (kk : fxR G nL x Q w (pc + 1) ls (v :: st)) : fxR G nL x Q w pc ls (zi j :: .ref a :: st) := r_aaload C hd ht hty href ha (z_in hj hk hn).1 (by rw [(z_in hj hk hn).2]; exact hv) kk
theorem zr_iastore (C : fxC G d cc nL own nm ret hh x) {a t n k : Nat} {j : Int} {v : Int32} (hd : decode cc pc = .ok (.iastore, 1)) (ht : t < 100) (hty : fxAr[t]? = some .int) (ha : fxk w a = some (100 + t, n)) (hj : j = (k : Int)) (hk : k < n) (hn : n < 2147483648) (kk : fxR G nL x Q (fx_ast w t a k (.int v)) (pc + 1) ls st) : fxR G nL x Q w pc ls (.int v :: zi j :: .ref a :: st) := r_iastore C hd ht hty ha (z_in hj hk hn).1 (by rw [(z_in hj hk hn).2]; exact kk)
theorem zr_lastore (C : fxC G d cc nL own nm ret hh x) {a t n k : Nat} {j : Int} {v : Int64} (hd : decode cc pc = .ok (.lastore, 1)) (ht : t < 100) (hty : fxAr[t]? = some .long) (ha : fxk w a = some (100 + t, n)) (hj : j = (k : Int)) (hk : k < n) (hn : n < 2147483648) (kk : fxR G nL x Q (fx_ast w t a k (.long v)) (pc + 1) ls st) : fxR G nL x Q w pc ls (.long v :: zi j :: .ref a :: st) := r_lastore C hd ht hty ha (z_in hj hk hn).1 (by rw [(z_in hj hk hn).2]; exact kk)
theorem zr_aastore (C : fxC G d cc nL own nm ret hh x) {a b t n n' ci k : Nat} {j : Int} {r : vw_C} {E : String} (hd : decode cc pc = .ok (.aastore, 1)) (ht : t < 100) (hty : fxAr[t]? = some (.object E)) (ha : fxk w a = some (100 + t, n)) (hb9 : fxk w b = some (ci, n')) (hci : ci < 100) (hc : fxCl[ci]? = some r) (hca : r.1 = E ∨ Cond.castable r.1 E ∈ fxTW) (hj : j = (k : Int)) (hk : k < n) (hn : n < 2147483648) (kk : fxR G nL x Q (fx_ast w t a k (.ref b)) (pc + 1) ls st) : fxR G nL x Q w pc ls (.ref b :: zi j :: .ref a :: st) := r_aastore C hd ht hty ha hb9 hci hc hca (z_in hj hk hn).1 (by rw [(z_in hj hk hn).2]; exact kk)
theorem zr_aastoreN (C : fxC G d cc nL own nm ret hh x) {a t n k : Nat} {j : Int} {E : String} (hd : decode cc pc = .ok (.aastore, 1)) (ht : t < 100) (hty : fxAr[t]? = some (.object E)) (ha : fxk w a = some (100 + t, n)) (hj : j = (k : Int)) (hk : k < n) (hn : n < 2147483648) (kk : fxR G nL x Q (fx_ast w t a k .null) (pc + 1) ls st) : fxR G nL x Q w pc ls (.null :: zi j :: .ref a :: st) := r_aastoreN C hd ht hty ha (z_in hj hk hn).1 (by rw [(z_in hj hk hn).2]; exact kk)
theorem zr_alen (C : fxC G d cc nL own nm ret hh x) {a t n : Nat} (hd : decode cc pc = .ok (.arraylength, 1)) (ht : t < 100) (ha : fxk w a = some (100 + t, n) ∨ fxk w a = some (200 + t, n)) (k : fxR G nL x Q w (pc + 1) ls (zi (n : Int) :: st)) : fxR G nL x Q w pc ls (.ref a :: st) := r_alen C hd ht ha (z_nat n) k
theorem zr_tableIn (C : fxC G d cc nL own nm ret hh x) {dflt lo hi : Int} {offs : Array Int} {len : Nat} {a : Int} {off : Int} {tgt : Nat} (hd : decode cc pc = .ok (.tableswitch dflt lo hi offs, len)) (ha : zok a) (h1 : lo ≤ a) (h2 : a ≤ hi) (ho : offs[(a - lo).toNat]? = some off) (ht : (pc : Int) + off = (tgt : Int)) (k : fxR G nL x Q w tgt ls st) : fxR G nL x Q w pc ls (zi a :: st) := r_tableIn C hd (by rw [zok_toInt ha]; omega) (by rw [zok_toInt ha]; omega) (by rw [zok_toInt ha]; exact ho) ht k
theorem zr_tableOut (C : fxC G d cc nL own nm ret hh x) {dflt lo hi : Int} {offs : Array Int} {len : Nat} {a : Int} {tgt : Nat} (hd : decode cc pc = .ok (.tableswitch dflt lo hi offs, len)) (ha : zok a) (h1 : a < lo ∨ hi < a) (ht : (pc : Int) + dflt = (tgt : Int)) (k : fxR G nL x Q w tgt ls st) : fxR G nL x Q w pc ls (zi a :: st) := r_tableOut C hd (by rw [zok_toInt ha]; exact h1) ht k
end FXZ
end
