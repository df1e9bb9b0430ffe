section
-- ===== PART A: goes FIRST, ahead of the names: the tables' words, and 'selects' of the private methods out of them =====
/-- a private method of a class that the tables say can be made, by its rows of tables_1 -/
def lw_okq (q : MethodName × Nat) : Prop := (q.1.cls ≠ "java/lang/invoke/MethodHandle" ∧ q.1.cls ≠ "java/lang/invoke/VarHandle") ∧ Cond.instantiable q.1.cls q.2 ∈ tables_1 ∧ Cond.privateMethod q.1 ∈ tables_1 ∧ Cond.instanceMethod q.1 ∈ tables_1
theorem lw_p0 : lw_okq (⟨"PackThreads$Packs", "blocksOfText", "()I"⟩, 9) := ⟨⟨by decide +kernel, by decide +kernel⟩, List.mem_of_getElem? (i := 72) (by decide +kernel), List.mem_of_getElem? (i := 321) (by decide +kernel), List.mem_of_getElem? (i := 322) (by decide +kernel)⟩
theorem lw_p1 : lw_okq (⟨"PackThreads$Packs", "packBytes", "(II)I"⟩, 9) := ⟨⟨by decide +kernel, by decide +kernel⟩, List.mem_of_getElem? (i := 72) (by decide +kernel), List.mem_of_getElem? (i := 340) (by decide +kernel), List.mem_of_getElem? (i := 341) (by decide +kernel)⟩
theorem lw_p2 : lw_okq (⟨"PackThreads$Packs", "bestDistance", "(II)I"⟩, 9) := ⟨⟨by decide +kernel, by decide +kernel⟩, List.mem_of_getElem? (i := 72) (by decide +kernel), List.mem_of_getElem? (i := 344) (by decide +kernel), List.mem_of_getElem? (i := 345) (by decide +kernel)⟩
theorem lw_p3 : lw_okq (⟨"PackThreads$Packs", "alike", "(III)I"⟩, 9) := ⟨⟨by decide +kernel, by decide +kernel⟩, List.mem_of_getElem? (i := 72) (by decide +kernel), List.mem_of_getElem? (i := 352) (by decide +kernel), List.mem_of_getElem? (i := 353) (by decide +kernel)⟩
theorem lw_p4 : lw_okq (⟨"PackThreads$Packs", "putByte", "(I)V"⟩, 9) := ⟨⟨by decide +kernel, by decide +kernel⟩, List.mem_of_getElem? (i := 72) (by decide +kernel), List.mem_of_getElem? (i := 360) (by decide +kernel), List.mem_of_getElem? (i := 361) (by decide +kernel)⟩
theorem lw_p5 : lw_okq (⟨"PackThreads$Packs", "put", "(I)V"⟩, 9) := ⟨⟨by decide +kernel, by decide +kernel⟩, List.mem_of_getElem? (i := 72) (by decide +kernel), List.mem_of_getElem? (i := 364) (by decide +kernel), List.mem_of_getElem? (i := 365) (by decide +kernel)⟩
theorem lw_p6 : lw_okq (⟨"PackThreads$Packs", "putCopy", "(II)V"⟩, 9) := ⟨⟨by decide +kernel, by decide +kernel⟩, List.mem_of_getElem? (i := 72) (by decide +kernel), List.mem_of_getElem? (i := 368) (by decide +kernel), List.mem_of_getElem? (i := 369) (by decide +kernel)⟩
theorem lw_p7 : lw_okq (⟨"PackThreads", "isThread", "(I)Z"⟩, 6) := ⟨⟨by decide +kernel, by decide +kernel⟩, List.mem_of_getElem? (i := 14) (by decide +kernel), List.mem_of_getElem? (i := 412) (by decide +kernel), List.mem_of_getElem? (i := 413) (by decide +kernel)⟩
theorem lw_p8 : lw_okq (⟨"PackThreads$Stream", "worker", "(I)LPackThreads$Worker;"⟩, 13) := ⟨⟨by decide +kernel, by decide +kernel⟩, List.mem_of_getElem? (i := 106) (by decide +kernel), List.mem_of_getElem? (i := 424) (by decide +kernel), List.mem_of_getElem? (i := 425) (by decide +kernel)⟩
theorem lw_p9 : lw_okq (⟨"PackThreads$Stream", "doFree", "(LPackThreads$Worker;)Z"⟩, 13) := ⟨⟨by decide +kernel, by decide +kernel⟩, List.mem_of_getElem? (i := 106) (by decide +kernel), List.mem_of_getElem? (i := 428) (by decide +kernel), List.mem_of_getElem? (i := 429) (by decide +kernel)⟩
theorem lw_p10 : lw_okq (⟨"PackThreads$Stream", "hasStopped", "()Z"⟩, 13) := ⟨⟨by decide +kernel, by decide +kernel⟩, List.mem_of_getElem? (i := 106) (by decide +kernel), List.mem_of_getElem? (i := 432) (by decide +kernel), List.mem_of_getElem? (i := 433) (by decide +kernel)⟩
theorem lw_p11 : lw_okq (⟨"PackThreads$Stream", "isBlockDoneAgain", "()Z"⟩, 13) := ⟨⟨by decide +kernel, by decide +kernel⟩, List.mem_of_getElem? (i := 106) (by decide +kernel), List.mem_of_getElem? (i := 441) (by decide +kernel), List.mem_of_getElem? (i := 442) (by decide +kernel)⟩
theorem lw_p12 : lw_okq (⟨"PackThreads$Stream", "isAnyAtWork", "()Z"⟩, 13) := ⟨⟨by decide +kernel, by decide +kernel⟩, List.mem_of_getElem? (i := 106) (by decide +kernel), List.mem_of_getElem? (i := 449) (by decide +kernel), List.mem_of_getElem? (i := 450) (by decide +kernel)⟩
theorem lw_p13 : lw_okq (⟨"PackThreads$Stream", "take", "(LPackThreads$Worker;I)V"⟩, 13) := ⟨⟨by decide +kernel, by decide +kernel⟩, List.mem_of_getElem? (i := 106) (by decide +kernel), List.mem_of_getElem? (i := 457) (by decide +kernel), List.mem_of_getElem? (i := 458) (by decide +kernel)⟩
theorem lw_p14 : lw_okq (⟨"PackThreads$Stream", "doWork", "(LPackThreads$Worker;)Z"⟩, 13) := ⟨⟨by decide +kernel, by decide +kernel⟩, List.mem_of_getElem? (i := 106) (by decide +kernel), List.mem_of_getElem? (i := 478) (by decide +kernel), List.mem_of_getElem? (i := 479) (by decide +kernel)⟩
theorem lw_p15 : lw_okq (⟨"PackThreads$Stream", "fail", "(LPackThreads$Worker;I)V"⟩, 13) := ⟨⟨by decide +kernel, by decide +kernel⟩, List.mem_of_getElem? (i := 106) (by decide +kernel), List.mem_of_getElem? (i := 486) (by decide +kernel), List.mem_of_getElem? (i := 487) (by decide +kernel)⟩
def lw_privs_1 : List (MethodName × Nat) := [(⟨"PackThreads$Packs", "blocksOfText", "()I"⟩, 9), (⟨"PackThreads$Packs", "packBytes", "(II)I"⟩, 9), (⟨"PackThreads$Packs", "bestDistance", "(II)I"⟩, 9), (⟨"PackThreads$Packs", "alike", "(III)I"⟩, 9), (⟨"PackThreads$Packs", "putByte", "(I)V"⟩, 9), (⟨"PackThreads$Packs", "put", "(I)V"⟩, 9), (⟨"PackThreads$Packs", "putCopy", "(II)V"⟩, 9), (⟨"PackThreads", "isThread", "(I)Z"⟩, 6), (⟨"PackThreads$Stream", "worker", "(I)LPackThreads$Worker;"⟩, 13), (⟨"PackThreads$Stream", "doFree", "(LPackThreads$Worker;)Z"⟩, 13), (⟨"PackThreads$Stream", "hasStopped", "()Z"⟩, 13), (⟨"PackThreads$Stream", "isBlockDoneAgain", "()Z"⟩, 13), (⟨"PackThreads$Stream", "isAnyAtWork", "()Z"⟩, 13), (⟨"PackThreads$Stream", "take", "(LPackThreads$Worker;I)V"⟩, 13), (⟨"PackThreads$Stream", "doWork", "(LPackThreads$Worker;)Z"⟩, 13), (⟨"PackThreads$Stream", "fail", "(LPackThreads$Worker;I)V"⟩, 13)]
theorem lw_r1 : ∀ q ∈ lw_privs_1, lw_okq q := List.forall_mem_cons.mpr ⟨lw_p0, List.forall_mem_cons.mpr ⟨lw_p1, List.forall_mem_cons.mpr ⟨lw_p2, List.forall_mem_cons.mpr ⟨lw_p3, List.forall_mem_cons.mpr ⟨lw_p4, List.forall_mem_cons.mpr ⟨lw_p5, List.forall_mem_cons.mpr ⟨lw_p6, List.forall_mem_cons.mpr ⟨lw_p7, List.forall_mem_cons.mpr ⟨lw_p8, List.forall_mem_cons.mpr ⟨lw_p9, List.forall_mem_cons.mpr ⟨lw_p10, List.forall_mem_cons.mpr ⟨lw_p11, List.forall_mem_cons.mpr ⟨lw_p12, List.forall_mem_cons.mpr ⟨lw_p13, List.forall_mem_cons.mpr ⟨lw_p14, List.forall_mem_cons.mpr ⟨lw_p15, fun _ h => absurd h List.not_mem_nil⟩⟩⟩⟩⟩⟩⟩⟩⟩⟩⟩⟩⟩⟩⟩⟩
theorem lw_p16 : lw_okq (⟨"PackThreads$Memory", "dropFirst", "()V"⟩, 3) := ⟨⟨by decide +kernel, by decide +kernel⟩, List.mem_of_getElem? (i := 114) (by decide +kernel), List.mem_of_getElem? (i := 494) (by decide +kernel), List.mem_of_getElem? (i := 495) (by decide +kernel)⟩
theorem lw_p17 : lw_okq (⟨"PackThreads$Stream", "layPack", "(LPackThreads$Worker;)Z"⟩, 13) := ⟨⟨by decide +kernel, by decide +kernel⟩, List.mem_of_getElem? (i := 106) (by decide +kernel), List.mem_of_getElem? (i := 511) (by decide +kernel), List.mem_of_getElem? (i := 512) (by decide +kernel)⟩
theorem lw_p18 : lw_okq (⟨"PackThreads$Stream", "doHolding", "(LPackThreads$Worker;)Z"⟩, 13) := ⟨⟨by decide +kernel, by decide +kernel⟩, List.mem_of_getElem? (i := 106) (by decide +kernel), List.mem_of_getElem? (i := 519) (by decide +kernel), List.mem_of_getElem? (i := 520) (by decide +kernel)⟩
theorem lw_p19 : lw_okq (⟨"PackThreads$Stream", "allEnded", "()Z"⟩, 13) := ⟨⟨by decide +kernel, by decide +kernel⟩, List.mem_of_getElem? (i := 106) (by decide +kernel), List.mem_of_getElem? (i := 531) (by decide +kernel), List.mem_of_getElem? (i := 532) (by decide +kernel)⟩
theorem lw_p20 : lw_okq (⟨"PackThreadsModel", "packAll", "()V"⟩, 38) := ⟨⟨by decide +kernel, by decide +kernel⟩, List.mem_of_getElem? (i := 617) (by decide +kernel), List.mem_of_getElem? (i := 757) (by decide +kernel), List.mem_of_getElem? (i := 758) (by decide +kernel)⟩
theorem lw_p21 : lw_okq (⟨"PackThreadsModel", "many", "()I"⟩, 38) := ⟨⟨by decide +kernel, by decide +kernel⟩, List.mem_of_getElem? (i := 617) (by decide +kernel), List.mem_of_getElem? (i := 761) (by decide +kernel), List.mem_of_getElem? (i := 762) (by decide +kernel)⟩
theorem lw_p22 : lw_okq (⟨"PackThreadsModel", "packOne", "(I)V"⟩, 38) := ⟨⟨by decide +kernel, by decide +kernel⟩, List.mem_of_getElem? (i := 617) (by decide +kernel), List.mem_of_getElem? (i := 765) (by decide +kernel), List.mem_of_getElem? (i := 766) (by decide +kernel)⟩
theorem lw_p23 : lw_okq (⟨"PackThreadsModel", "lengthOf", "(I)I"⟩, 38) := ⟨⟨by decide +kernel, by decide +kernel⟩, List.mem_of_getElem? (i := 617) (by decide +kernel), List.mem_of_getElem? (i := 769) (by decide +kernel), List.mem_of_getElem? (i := 770) (by decide +kernel)⟩
theorem lw_p24 : lw_okq (⟨"PackThreadsModel", "alike", "(III)I"⟩, 38) := ⟨⟨by decide +kernel, by decide +kernel⟩, List.mem_of_getElem? (i := 617) (by decide +kernel), List.mem_of_getElem? (i := 773) (by decide +kernel), List.mem_of_getElem? (i := 774) (by decide +kernel)⟩
theorem lw_p25 : lw_okq (⟨"PackThreadsModel", "plainTo", "(II)V"⟩, 38) := ⟨⟨by decide +kernel, by decide +kernel⟩, List.mem_of_getElem? (i := 617) (by decide +kernel), List.mem_of_getElem? (i := 777) (by decide +kernel), List.mem_of_getElem? (i := 778) (by decide +kernel)⟩
theorem lw_p26 : lw_okq (⟨"PackThreadsModel", "lay", "(I)V"⟩, 38) := ⟨⟨by decide +kernel, by decide +kernel⟩, List.mem_of_getElem? (i := 617) (by decide +kernel), List.mem_of_getElem? (i := 781) (by decide +kernel), List.mem_of_getElem? (i := 782) (by decide +kernel)⟩
theorem lw_p27 : lw_okq (⟨"PackThreadsModel", "isThread", "(I)Z"⟩, 38) := ⟨⟨by decide +kernel, by decide +kernel⟩, List.mem_of_getElem? (i := 617) (by decide +kernel), List.mem_of_getElem? (i := 793) (by decide +kernel), List.mem_of_getElem? (i := 794) (by decide +kernel)⟩
theorem lw_p28 : lw_okq (⟨"PackThreadsModel", "act", "(I)I"⟩, 38) := ⟨⟨by decide +kernel, by decide +kernel⟩, List.mem_of_getElem? (i := 617) (by decide +kernel), List.mem_of_getElem? (i := 797) (by decide +kernel), List.mem_of_getElem? (i := 798) (by decide +kernel)⟩
theorem lw_p29 : lw_okq (⟨"PackThreadsModel", "free", "(I)I"⟩, 38) := ⟨⟨by decide +kernel, by decide +kernel⟩, List.mem_of_getElem? (i := 617) (by decide +kernel), List.mem_of_getElem? (i := 801) (by decide +kernel), List.mem_of_getElem? (i := 802) (by decide +kernel)⟩
theorem lw_p30 : lw_okq (⟨"PackThreadsModel", "isStopped", "()Z"⟩, 38) := ⟨⟨by decide +kernel, by decide +kernel⟩, List.mem_of_getElem? (i := 617) (by decide +kernel), List.mem_of_getElem? (i := 805) (by decide +kernel), List.mem_of_getElem? (i := 806) (by decide +kernel)⟩
theorem lw_p31 : lw_okq (⟨"PackThreadsModel", "ends", "(I)V"⟩, 38) := ⟨⟨by decide +kernel, by decide +kernel⟩, List.mem_of_getElem? (i := 617) (by decide +kernel), List.mem_of_getElem? (i := 809) (by decide +kernel), List.mem_of_getElem? (i := 810) (by decide +kernel)⟩
def lw_privs_2 : List (MethodName × Nat) := [(⟨"PackThreads$Memory", "dropFirst", "()V"⟩, 3), (⟨"PackThreads$Stream", "layPack", "(LPackThreads$Worker;)Z"⟩, 13), (⟨"PackThreads$Stream", "doHolding", "(LPackThreads$Worker;)Z"⟩, 13), (⟨"PackThreads$Stream", "allEnded", "()Z"⟩, 13), (⟨"PackThreadsModel", "packAll", "()V"⟩, 38), (⟨"PackThreadsModel", "many", "()I"⟩, 38), (⟨"PackThreadsModel", "packOne", "(I)V"⟩, 38), (⟨"PackThreadsModel", "lengthOf", "(I)I"⟩, 38), (⟨"PackThreadsModel", "alike", "(III)I"⟩, 38), (⟨"PackThreadsModel", "plainTo", "(II)V"⟩, 38), (⟨"PackThreadsModel", "lay", "(I)V"⟩, 38), (⟨"PackThreadsModel", "isThread", "(I)Z"⟩, 38), (⟨"PackThreadsModel", "act", "(I)I"⟩, 38), (⟨"PackThreadsModel", "free", "(I)I"⟩, 38), (⟨"PackThreadsModel", "isStopped", "()Z"⟩, 38), (⟨"PackThreadsModel", "ends", "(I)V"⟩, 38)]
theorem lw_r2 : ∀ q ∈ lw_privs_2, lw_okq q := List.forall_mem_cons.mpr ⟨lw_p16, List.forall_mem_cons.mpr ⟨lw_p17, List.forall_mem_cons.mpr ⟨lw_p18, List.forall_mem_cons.mpr ⟨lw_p19, List.forall_mem_cons.mpr ⟨lw_p20, List.forall_mem_cons.mpr ⟨lw_p21, List.forall_mem_cons.mpr ⟨lw_p22, List.forall_mem_cons.mpr ⟨lw_p23, List.forall_mem_cons.mpr ⟨lw_p24, List.forall_mem_cons.mpr ⟨lw_p25, List.forall_mem_cons.mpr ⟨lw_p26, List.forall_mem_cons.mpr ⟨lw_p27, List.forall_mem_cons.mpr ⟨lw_p28, List.forall_mem_cons.mpr ⟨lw_p29, List.forall_mem_cons.mpr ⟨lw_p30, List.forall_mem_cons.mpr ⟨lw_p31, fun _ h => absurd h List.not_mem_nil⟩⟩⟩⟩⟩⟩⟩⟩⟩⟩⟩⟩⟩⟩⟩⟩
theorem lw_p32 : lw_okq (⟨"PackThreadsModel", "isSome", "(IZ)Z"⟩, 38) := ⟨⟨by decide +kernel, by decide +kernel⟩, List.mem_of_getElem? (i := 617) (by decide +kernel), List.mem_of_getElem? (i := 813) (by decide +kernel), List.mem_of_getElem? (i := 814) (by decide +kernel)⟩
theorem lw_p33 : lw_okq (⟨"PackThreadsModel", "takes", "(II)V"⟩, 38) := ⟨⟨by decide +kernel, by decide +kernel⟩, List.mem_of_getElem? (i := 617) (by decide +kernel), List.mem_of_getElem? (i := 817) (by decide +kernel), List.mem_of_getElem? (i := 818) (by decide +kernel)⟩
theorem lw_p34 : lw_okq (⟨"PackThreadsModel", "works", "(I)V"⟩, 38) := ⟨⟨by decide +kernel, by decide +kernel⟩, List.mem_of_getElem? (i := 617) (by decide +kernel), List.mem_of_getElem? (i := 821) (by decide +kernel), List.mem_of_getElem? (i := 822) (by decide +kernel)⟩
theorem lw_p35 : lw_okq (⟨"PackThreadsModel", "work", "(I)I"⟩, 38) := ⟨⟨by decide +kernel, by decide +kernel⟩, List.mem_of_getElem? (i := 617) (by decide +kernel), List.mem_of_getElem? (i := 825) (by decide +kernel), List.mem_of_getElem? (i := 826) (by decide +kernel)⟩
theorem lw_p36 : lw_okq (⟨"PackThreadsModel", "givesBack", "(I)V"⟩, 38) := ⟨⟨by decide +kernel, by decide +kernel⟩, List.mem_of_getElem? (i := 617) (by decide +kernel), List.mem_of_getElem? (i := 829) (by decide +kernel), List.mem_of_getElem? (i := 830) (by decide +kernel)⟩
theorem lw_p37 : lw_okq (⟨"PackThreadsModel", "leaves", "(I)V"⟩, 38) := ⟨⟨by decide +kernel, by decide +kernel⟩, List.mem_of_getElem? (i := 617) (by decide +kernel), List.mem_of_getElem? (i := 833) (by decide +kernel), List.mem_of_getElem? (i := 834) (by decide +kernel)⟩
theorem lw_p38 : lw_okq (⟨"PackThreadsModel", "lays", "(I)I"⟩, 38) := ⟨⟨by decide +kernel, by decide +kernel⟩, List.mem_of_getElem? (i := 617) (by decide +kernel), List.mem_of_getElem? (i := 837) (by decide +kernel), List.mem_of_getElem? (i := 838) (by decide +kernel)⟩
theorem lw_p39 : lw_okq (⟨"PackThreadsModel", "isOver", "()Z"⟩, 38) := ⟨⟨by decide +kernel, by decide +kernel⟩, List.mem_of_getElem? (i := 617) (by decide +kernel), List.mem_of_getElem? (i := 845) (by decide +kernel), List.mem_of_getElem? (i := 846) (by decide +kernel)⟩
theorem lw_p40 : lw_okq (⟨"PackThreadsModel", "outSize", "()I"⟩, 38) := ⟨⟨by decide +kernel, by decide +kernel⟩, List.mem_of_getElem? (i := 617) (by decide +kernel), List.mem_of_getElem? (i := 861) (by decide +kernel), List.mem_of_getElem? (i := 862) (by decide +kernel)⟩
def lw_privs_3 : List (MethodName × Nat) := [(⟨"PackThreadsModel", "isSome", "(IZ)Z"⟩, 38), (⟨"PackThreadsModel", "takes", "(II)V"⟩, 38), (⟨"PackThreadsModel", "works", "(I)V"⟩, 38), (⟨"PackThreadsModel", "work", "(I)I"⟩, 38), (⟨"PackThreadsModel", "givesBack", "(I)V"⟩, 38), (⟨"PackThreadsModel", "leaves", "(I)V"⟩, 38), (⟨"PackThreadsModel", "lays", "(I)I"⟩, 38), (⟨"PackThreadsModel", "isOver", "()Z"⟩, 38), (⟨"PackThreadsModel", "outSize", "()I"⟩, 38)]
theorem lw_r3 : ∀ q ∈ lw_privs_3, lw_okq q := List.forall_mem_cons.mpr ⟨lw_p32, List.forall_mem_cons.mpr ⟨lw_p33, List.forall_mem_cons.mpr ⟨lw_p34, List.forall_mem_cons.mpr ⟨lw_p35, List.forall_mem_cons.mpr ⟨lw_p36, List.forall_mem_cons.mpr ⟨lw_p37, List.forall_mem_cons.mpr ⟨lw_p38, List.forall_mem_cons.mpr ⟨lw_p39, List.forall_mem_cons.mpr ⟨lw_p40, fun _ h => absurd h List.not_mem_nil⟩⟩⟩⟩⟩⟩⟩⟩⟩
def lw_privs : List (MethodName × Nat) := lw_privs_1 ++ (lw_privs_2 ++ (lw_privs_3))
def lw_tbl : List Cond := k2_sels lw_privs ++ tables_1
theorem lw_privs_ok : ∀ q ∈ lw_privs, lw_okq q := by
  show ∀ q ∈ lw_privs_1 ++ (lw_privs_2 ++ (lw_privs_3)), lw_okq q
  exact List.forall_mem_append.mpr ⟨lw_r1, List.forall_mem_append.mpr ⟨lw_r2, lw_r3⟩⟩
end
section
/-! ===== BEGIN words of one list among another's, by their places ===== -/
theorem goodIn_r {big : List Cond} (ws : List Cond) (ps : List Nat) (hp : ws = ps.filterMap (fun i => big[i]?)) (h : ws.all goodWord = true) : GoodIn big ws := by
  intro w hw
  have h1 := List.all_eq_true.mp h w hw
  rw [hp] at hw
  obtain ⟨i, -, hi⟩ := List.mem_filterMap.mp hw
  have hm : w ∈ big := by first | exact List.mem_of_getElem? hi | exact List.getElem?_mem hi
  exact ⟨hm, good_of_word h1⟩
theorem goodIn_app {big a b : List Cond} (ha : GoodIn big a) (hb : GoodIn big b) : GoodIn big (a ++ b) := fun w h => (List.mem_append.mp h).elim (ha w) (hb w)
theorem goodIn_ca {big a b : List Cond} {c : Cond} (ha : GoodIn big (c :: a)) (hb : GoodIn big b) : GoodIn big (c :: (a ++ b)) := fun w h => (List.mem_cons.mp h).elim (fun e => ha w (List.mem_cons.mpr (Or.inl e))) (fun h => (List.mem_append.mp h).elim (fun h => ha w (List.mem_cons.mpr (Or.inr h))) (hb w))
theorem goodIn_sub {big ws : List Cond} (hm : ∀ w ∈ ws, w ∈ big) (h : ws.all goodWord = true) : GoodIn big ws := fun w hw => ⟨hm w hw, good_of_word (List.all_eq_true.mp h w hw)⟩
/-! ===== END ===== -/

/-! ===== BEGIN printed: names, fields, word lists, decode rows ===== -/
def RX0 : String := "PackThreads$Failed"
def TX0 : u_T := fun k => match k with
  | 0 => ("PackThreads$Failed", "before", "[Z", true)
  | 1 => ("PackThreads$Failed", "line", "[I", true)
  | _ => ("PackThreads$Failed", "inLine", "I", false)
def tyX0 : Nat → FieldType := fun k => match k with
  | 0 => .array .boolean
  | 1 => .array .int
  | _ => .int
abbrev wsX00 : List Cond := u_ws RX0 TX0 3
theorem nmX0 : ∀ a, a < 3 → ∀ b, b < 3 → a ≠ b → (TX0 a).2.1 ≠ (TX0 b).2.1 := by decide +kernel
theorem tyX0_ok : ∀ k, k < 3 → parseFieldDescriptor (TX0 k).2.2.1 = some (tyX0 k) := by decide +kernel
abbrev cX0_init : ByteArray := prog_2_method_1_code
def yX0_init : MethodName := ⟨RX0, "<init>", "()V"⟩
abbrev cX0_renew : ByteArray := prog_2_method_2_code
def yX0_renew : MethodName := ⟨RX0, "renew", "()V"⟩
abbrev cX0_has : ByteArray := prog_2_method_3_code
def yX0_has : MethodName := ⟨RX0, "has", "(I)Z"⟩
abbrev cX0_add : ByteArray := prog_2_method_4_code
def yX0_add : MethodName := ⟨RX0, "add", "(I)V"⟩
abbrev cX0_takeFirst : ByteArray := prog_2_method_5_code
def yX0_takeFirst : MethodName := ⟨RX0, "takeFirst", "()I"⟩
def RX1 : String := "PackThreads$Memory"
def TX1 : u_T := fun k => match k with
  | 0 => ("PackThreads$Memory", "line", "[LPackThreads$Worker;", true)
  | 1 => ("PackThreads$Memory", "inLine", "I", false)
  | _ => ("PackThreads$Memory", "left", "I", false)
def tyX1 : Nat → FieldType := fun k => match k with
  | 0 => .array (.object "PackThreads$Worker")
  | 1 => .int
  | _ => .int
abbrev wsX10 : List Cond := u_ws RX1 TX1 3
theorem nmX1 : ∀ a, a < 3 → ∀ b, b < 3 → a ≠ b → (TX1 a).2.1 ≠ (TX1 b).2.1 := by decide +kernel
theorem tyX1_ok : ∀ k, k < 3 → parseFieldDescriptor (TX1 k).2.2.1 = some (tyX1 k) := by decide +kernel
abbrev cX1_init : ByteArray := prog_3_method_1_code
def yX1_init : MethodName := ⟨RX1, "<init>", "()V"⟩
abbrev cX1_fill : ByteArray := prog_3_method_2_code
def yX1_fill : MethodName := ⟨RX1, "fill", "(I)V"⟩
abbrev cX1_ask : ByteArray := prog_3_method_3_code
def yX1_ask : MethodName := ⟨RX1, "ask", "(LPackThreads$Worker;)V"⟩
abbrev cX1_giveBack : ByteArray := prog_3_method_4_code
def yX1_giveBack : MethodName := ⟨RX1, "giveBack", "(I)V"⟩
abbrev cX1_dropFirst : ByteArray := prog_3_method_5_code
def yX1_dropFirst : MethodName := ⟨RX1, "dropFirst", "()V"⟩
abbrev cX1_numberAt : ByteArray := prog_3_method_6_code
def yX1_numberAt : MethodName := ⟨RX1, "numberAt", "(I)I"⟩
def RX2 : String := "PackThreads$Packs"
def TX2 : u_T := fun k => match k with
  | 0 => ("PackThreads$Packs", "text", "LPackThreads$Text;", true)
  | 1 => ("PackThreads$Packs", "settings", "LPackThreads$Settings;", true)
  | 2 => ("PackThreads$Packs", "bytes", "[I", true)
  | 3 => ("PackThreads$Packs", "ends", "[I", true)
  | 4 => ("PackThreads$Packs", "tokens", "[I", true)
  | 5 => ("PackThreads$Packs", "count", "I", false)
  | 6 => ("PackThreads$Packs", "blocks", "I", false)
  | 7 => ("PackThreads$Packs", "runAt", "I", false)
  | _ => ("PackThreads$Packs", "made", "Z", false)
def tyX2 : Nat → FieldType := fun k => match k with
  | 0 => .object "PackThreads$Text"
  | 1 => .object "PackThreads$Settings"
  | 2 => .array .int
  | 3 => .array .int
  | 4 => .array .int
  | 5 => .int
  | 6 => .int
  | 7 => .int
  | _ => .boolean
abbrev wsX20 : List Cond := u_ws RX2 TX2 9
theorem nmX2 : ∀ a, a < 9 → ∀ b, b < 9 → a ≠ b → (TX2 a).2.1 ≠ (TX2 b).2.1 := by decide +kernel
theorem tyX2_ok : ∀ k, k < 9 → parseFieldDescriptor (TX2 k).2.2.1 = some (tyX2 k) := by decide +kernel
abbrev cX2_init : ByteArray := prog_4_method_1_code
def yX2_init : MethodName := ⟨RX2, "<init>", "(LPackThreads$Text;LPackThreads$Settings;)V"⟩
abbrev cX2_forget : ByteArray := prog_4_method_2_code
def yX2_forget : MethodName := ⟨RX2, "forget", "()V"⟩
abbrev cX2_make : ByteArray := prog_4_method_3_code
def yX2_make : MethodName := ⟨RX2, "make", "()V"⟩
abbrev cX2_blocksOfText : ByteArray := prog_4_method_4_code
def yX2_blocksOfText : MethodName := ⟨RX2, "blocksOfText", "()I"⟩
abbrev cX2_packBytes : ByteArray := prog_4_method_5_code
def yX2_packBytes : MethodName := ⟨RX2, "packBytes", "(II)I"⟩
abbrev cX2_bestDistance : ByteArray := prog_4_method_6_code
def yX2_bestDistance : MethodName := ⟨RX2, "bestDistance", "(II)I"⟩
abbrev cX2_alike : ByteArray := prog_4_method_7_code
def yX2_alike : MethodName := ⟨RX2, "alike", "(III)I"⟩
abbrev cX2_putByte : ByteArray := prog_4_method_8_code
def yX2_putByte : MethodName := ⟨RX2, "putByte", "(I)V"⟩
abbrev cX2_putCopy : ByteArray := prog_4_method_9_code
def yX2_putCopy : MethodName := ⟨RX2, "putCopy", "(II)V"⟩
abbrev cX2_put : ByteArray := prog_4_method_10_code
def yX2_put : MethodName := ⟨RX2, "put", "(I)V"⟩
abbrev cX2_blocks : ByteArray := prog_4_method_11_code
def yX2_blocks : MethodName := ⟨RX2, "blocks", "()I"⟩
abbrev cX2_bytesOf : ByteArray := prog_4_method_12_code
def yX2_bytesOf : MethodName := ⟨RX2, "bytesOf", "(I)I"⟩
abbrev cX2_tokensOf : ByteArray := prog_4_method_13_code
def yX2_tokensOf : MethodName := ⟨RX2, "tokensOf", "(I)I"⟩
abbrev cX2_byteAt : ByteArray := prog_4_method_14_code
def yX2_byteAt : MethodName := ⟨RX2, "byteAt", "(I)I"⟩
abbrev cX2_lengthOfFirst : ByteArray := prog_4_method_15_code
def yX2_lengthOfFirst : MethodName := ⟨RX2, "lengthOfFirst", "(I)I"⟩
def RX3 : String := "PackThreads$Plants"
def TX3 : u_T := fun k => match k with
  | 0 => ("PackThreads$Plants", "steps", "[I", true)
  | 1 => ("PackThreads$Plants", "kinds", "[I", true)
  | _ => ("PackThreads$Plants", "forTwice", "[Z", true)
def tyX3 : Nat → FieldType := fun k => match k with
  | 0 => .array .int
  | 1 => .array .int
  | _ => .array .boolean
abbrev wsX30 : List Cond := u_ws RX3 TX3 3
theorem nmX3 : ∀ a, a < 3 → ∀ b, b < 3 → a ≠ b → (TX3 a).2.1 ≠ (TX3 b).2.1 := by decide +kernel
theorem tyX3_ok : ∀ k, k < 3 → parseFieldDescriptor (TX3 k).2.2.1 = some (tyX3 k) := by decide +kernel
abbrev cX3_init : ByteArray := prog_5_method_1_code
def yX3_init : MethodName := ⟨RX3, "<init>", "()V"⟩
abbrev cX3_put : ByteArray := prog_5_method_2_code
def yX3_put : MethodName := ⟨RX3, "put", "(IIIZ)V"⟩
abbrev cX3_kindAt : ByteArray := prog_5_method_3_code
def yX3_kindAt : MethodName := ⟨RX3, "kindAt", "(IIZ)I"⟩
abbrev cX3_removeAll : ByteArray := prog_5_method_4_code
def yX3_removeAll : MethodName := ⟨RX3, "removeAll", "()V"⟩
def RX4 : String := "PackThreads$Row"
def TX4 : u_T := fun k => match k with
  | 0 => ("PackThreads$Row", "kept", "[Z", true)
  | 1 => ("PackThreads$Row", "packs", "I", false)
  | 2 => ("PackThreads$Row", "limit", "I", false)
  | _ => ("PackThreads$Row", "joined", "I", false)
def tyX4 : Nat → FieldType := fun k => match k with
  | 0 => .array .boolean
  | 1 => .int
  | 2 => .int
  | _ => .int
abbrev wsX40 : List Cond := u_ws RX4 TX4 4
theorem nmX4 : ∀ a, a < 4 → ∀ b, b < 4 → a ≠ b → (TX4 a).2.1 ≠ (TX4 b).2.1 := by decide +kernel
theorem tyX4_ok : ∀ k, k < 4 → parseFieldDescriptor (TX4 k).2.2.1 = some (tyX4 k) := by decide +kernel
abbrev cX4_init : ByteArray := prog_6_method_1_code
def yX4_init : MethodName := ⟨RX4, "<init>", "()V"⟩
abbrev cX4_renew : ByteArray := prog_6_method_2_code
def yX4_renew : MethodName := ⟨RX4, "renew", "(I)V"⟩
abbrev cX4_lay : ByteArray := prog_6_method_3_code
def yX4_lay : MethodName := ⟨RX4, "lay", "(I)Z"⟩
def RX5 : String := "PackThreads$Settings"
def TX5 : u_T := fun k => match k with
  | 0 => ("PackThreads$Settings", "size", "I", false)
  | 1 => ("PackThreads$Settings", "window", "I", false)
  | 2 => ("PackThreads$Settings", "cells", "I", false)
  | _ => ("PackThreads$Settings", "rowLimit", "I", false)
def tyX5 : Nat → FieldType := fun k => match k with
  | 0 => .int
  | 1 => .int
  | 2 => .int
  | _ => .int
abbrev wsX50 : List Cond := u_ws RX5 TX5 4
theorem nmX5 : ∀ a, a < 4 → ∀ b, b < 4 → a ≠ b → (TX5 a).2.1 ≠ (TX5 b).2.1 := by decide +kernel
theorem tyX5_ok : ∀ k, k < 4 → parseFieldDescriptor (TX5 k).2.2.1 = some (tyX5 k) := by decide +kernel
abbrev cX5_init : ByteArray := prog_7_method_1_code
def yX5_init : MethodName := ⟨RX5, "<init>", "()V"⟩
abbrev cX5_allows : ByteArray := prog_7_method_2_code
def yX5_allows : MethodName := ⟨RX5, "allows", "(II)Z"⟩
abbrev cX5_replace : ByteArray := prog_7_method_3_code
def yX5_replace : MethodName := ⟨RX5, "replace", "(II)I"⟩
abbrev cX5_size : ByteArray := prog_7_method_4_code
def yX5_size : MethodName := ⟨RX5, "size", "()I"⟩
abbrev cX5_window : ByteArray := prog_7_method_5_code
def yX5_window : MethodName := ⟨RX5, "window", "()I"⟩
abbrev cX5_cells : ByteArray := prog_7_method_6_code
def yX5_cells : MethodName := ⟨RX5, "cells", "()I"⟩
abbrev cX5_rowLimit : ByteArray := prog_7_method_7_code
def yX5_rowLimit : MethodName := ⟨RX5, "rowLimit", "()I"⟩
def RX6 : String := "PackThreads$Stream"
def TX6 : u_T := fun k => match k with
  | 0 => ("PackThreads$Stream", "packs", "LPackThreads$Packs;", true)
  | 1 => ("PackThreads$Stream", "plants", "LPackThreads$Plants;", true)
  | 2 => ("PackThreads$Stream", "workers", "[LPackThreads$Worker;", true)
  | 3 => ("PackThreads$Stream", "memory", "LPackThreads$Memory;", true)
  | 4 => ("PackThreads$Stream", "row", "LPackThreads$Row;", true)
  | 5 => ("PackThreads$Stream", "failed", "LPackThreads$Failed;", true)
  | 6 => ("PackThreads$Stream", "threads", "I", false)
  | 7 => ("PackThreads$Stream", "latest", "I", false)
  | 8 => ("PackThreads$Stream", "nextBlock", "I", false)
  | 9 => ("PackThreads$Stream", "stoppedAt", "I", false)
  | 10 => ("PackThreads$Stream", "stoppedKind", "I", false)
  | 11 => ("PackThreads$Stream", "failures", "I", false)
  | _ => ("PackThreads$Stream", "turnsDone", "I", false)
def tyX6 : Nat → FieldType := fun k => match k with
  | 0 => .object "PackThreads$Packs"
  | 1 => .object "PackThreads$Plants"
  | 2 => .array (.object "PackThreads$Worker")
  | 3 => .object "PackThreads$Memory"
  | 4 => .object "PackThreads$Row"
  | 5 => .object "PackThreads$Failed"
  | 6 => .int
  | 7 => .int
  | 8 => .int
  | 9 => .int
  | 10 => .int
  | 11 => .int
  | _ => .int
abbrev wsX60 : List Cond := u_ws RX6 TX6 13
theorem nmX6 : ∀ a, a < 13 → ∀ b, b < 13 → a ≠ b → (TX6 a).2.1 ≠ (TX6 b).2.1 := by decide +kernel
theorem tyX6_ok : ∀ k, k < 13 → parseFieldDescriptor (TX6 k).2.2.1 = some (tyX6 k) := by decide +kernel
abbrev cX6_init : ByteArray := prog_8_method_1_code
def yX6_init : MethodName := ⟨RX6, "<init>", "(LPackThreads$Packs;LPackThreads$Plants;)V"⟩
abbrev cX6_start : ByteArray := prog_8_method_2_code
def yX6_start : MethodName := ⟨RX6, "start", "(III)V"⟩
abbrev cX6_threads : ByteArray := prog_8_method_3_code
def yX6_threads : MethodName := ⟨RX6, "threads", "()I"⟩
abbrev cX6_worker : ByteArray := prog_8_method_4_code
def yX6_worker : MethodName := ⟨RX6, "worker", "(I)LPackThreads$Worker;"⟩
abbrev cX6_giveTurnsInRing : ByteArray := prog_8_method_5_code
def yX6_giveTurnsInRing : MethodName := ⟨RX6, "giveTurnsInRing", "(I)I"⟩
abbrev cX6_giveTurn : ByteArray := prog_8_method_6_code
def yX6_giveTurn : MethodName := ⟨RX6, "giveTurn", "(I)Z"⟩
abbrev cX6_doFree : ByteArray := prog_8_method_7_code
def yX6_doFree : MethodName := ⟨RX6, "doFree", "(LPackThreads$Worker;)Z"⟩
abbrev cX6_take : ByteArray := prog_8_method_8_code
def yX6_take : MethodName := ⟨RX6, "take", "(LPackThreads$Worker;I)V"⟩
abbrev cX6_doWork : ByteArray := prog_8_method_9_code
def yX6_doWork : MethodName := ⟨RX6, "doWork", "(LPackThreads$Worker;)Z"⟩
abbrev cX6_fail : ByteArray := prog_8_method_10_code
def yX6_fail : MethodName := ⟨RX6, "fail", "(LPackThreads$Worker;I)V"⟩
abbrev cX6_doHolding : ByteArray := prog_8_method_11_code
def yX6_doHolding : MethodName := ⟨RX6, "doHolding", "(LPackThreads$Worker;)Z"⟩
abbrev cX6_layPack : ByteArray := prog_8_method_12_code
def yX6_layPack : MethodName := ⟨RX6, "layPack", "(LPackThreads$Worker;)Z"⟩
abbrev cX6_hasStopped : ByteArray := prog_8_method_13_code
def yX6_hasStopped : MethodName := ⟨RX6, "hasStopped", "()Z"⟩
abbrev cX6_isBlockDoneAgain : ByteArray := prog_8_method_14_code
def yX6_isBlockDoneAgain : MethodName := ⟨RX6, "isBlockDoneAgain", "()Z"⟩
abbrev cX6_isAnyAtWork : ByteArray := prog_8_method_15_code
def yX6_isAnyAtWork : MethodName := ⟨RX6, "isAnyAtWork", "()Z"⟩
abbrev cX6_allEnded : ByteArray := prog_8_method_16_code
def yX6_allEnded : MethodName := ⟨RX6, "allEnded", "()Z"⟩
abbrev cX6_markInterrupted : ByteArray := prog_8_method_17_code
def yX6_markInterrupted : MethodName := ⟨RX6, "markInterrupted", "(I)Z"⟩
abbrev cX6_endAll : ByteArray := prog_8_method_18_code
def yX6_endAll : MethodName := ⟨RX6, "endAll", "()I"⟩
abbrev cX6_joinedBytes : ByteArray := prog_8_method_19_code
def yX6_joinedBytes : MethodName := ⟨RX6, "joinedBytes", "()I"⟩
abbrev cX6_numberInLine : ByteArray := prog_8_method_20_code
def yX6_numberInLine : MethodName := ⟨RX6, "numberInLine", "(I)I"⟩
abbrev cX6_tellOfThread : ByteArray := prog_8_method_21_code
def yX6_tellOfThread : MethodName := ⟨RX6, "tellOfThread", "(II)I"⟩
abbrev cX6_tellOfStores : ByteArray := prog_8_method_22_code
def yX6_tellOfStores : MethodName := ⟨RX6, "tellOfStores", "(I)I"⟩
abbrev cX6_tellOfCourse : ByteArray := prog_8_method_23_code
def yX6_tellOfCourse : MethodName := ⟨RX6, "tellOfCourse", "(I)I"⟩
def RX7 : String := "PackThreads$Text"
def TX7 : u_T := fun k => match k with
  | 0 => ("PackThreads$Text", "bytes", "[I", true)
  | _ => ("PackThreads$Text", "length", "I", false)
def tyX7 : Nat → FieldType := fun k => match k with
  | 0 => .array .int
  | _ => .int
abbrev wsX70 : List Cond := u_ws RX7 TX7 2
theorem nmX7 : ∀ a, a < 2 → ∀ b, b < 2 → a ≠ b → (TX7 a).2.1 ≠ (TX7 b).2.1 := by decide +kernel
theorem tyX7_ok : ∀ k, k < 2 → parseFieldDescriptor (TX7 k).2.2.1 = some (tyX7 k) := by decide +kernel
abbrev cX7_init : ByteArray := prog_9_method_1_code
def yX7_init : MethodName := ⟨RX7, "<init>", "()V"⟩
abbrev cX7_length : ByteArray := prog_9_method_2_code
def yX7_length : MethodName := ⟨RX7, "length", "()I"⟩
abbrev cX7_isFull : ByteArray := prog_9_method_3_code
def yX7_isFull : MethodName := ⟨RX7, "isFull", "()Z"⟩
abbrev cX7_add : ByteArray := prog_9_method_4_code
def yX7_add : MethodName := ⟨RX7, "add", "(I)V"⟩
abbrev cX7_at : ByteArray := prog_9_method_5_code
def yX7_at : MethodName := ⟨RX7, "at", "(I)I"⟩
abbrev cX7_empty : ByteArray := prog_9_method_6_code
def yX7_empty : MethodName := ⟨RX7, "empty", "()V"⟩
def RX8 : String := "PackThreads$Worker"
def TX8 : u_T := fun k => match k with
  | 0 => ("PackThreads$Worker", "number", "I", true)
  | 1 => ("PackThreads$Worker", "state", "I", false)
  | 2 => ("PackThreads$Worker", "block", "I", false)
  | 3 => ("PackThreads$Worker", "step", "I", false)
  | 4 => ("PackThreads$Worker", "cells", "I", false)
  | 5 => ("PackThreads$Worker", "made", "I", false)
  | 6 => ("PackThreads$Worker", "timesEnded", "I", false)
  | _ => ("PackThreads$Worker", "interrupted", "Z", false)
def tyX8 : Nat → FieldType := fun k => match k with
  | 0 => .int
  | 1 => .int
  | 2 => .int
  | 3 => .int
  | 4 => .int
  | 5 => .int
  | 6 => .int
  | _ => .boolean
abbrev wsX80 : List Cond := u_ws RX8 TX8 8
theorem nmX8 : ∀ a, a < 8 → ∀ b, b < 8 → a ≠ b → (TX8 a).2.1 ≠ (TX8 b).2.1 := by decide +kernel
theorem tyX8_ok : ∀ k, k < 8 → parseFieldDescriptor (TX8 k).2.2.1 = some (tyX8 k) := by decide +kernel
abbrev cX8_init : ByteArray := prog_10_method_1_code
def yX8_init : MethodName := ⟨RX8, "<init>", "(I)V"⟩
abbrev cX8_renew : ByteArray := prog_10_method_2_code
def yX8_renew : MethodName := ⟨RX8, "renew", "()V"⟩
abbrev cX8_becomeFree : ByteArray := prog_10_method_3_code
def yX8_becomeFree : MethodName := ⟨RX8, "becomeFree", "()V"⟩
abbrev cX8_choose : ByteArray := prog_10_method_4_code
def yX8_choose : MethodName := ⟨RX8, "choose", "(II)V"⟩
abbrev cX8_waitInLine : ByteArray := prog_10_method_5_code
def yX8_waitInLine : MethodName := ⟨RX8, "waitInLine", "()V"⟩
abbrev cX8_startWork : ByteArray := prog_10_method_6_code
def yX8_startWork : MethodName := ⟨RX8, "startWork", "()V"⟩
abbrev cX8_holdPack : ByteArray := prog_10_method_7_code
def yX8_holdPack : MethodName := ⟨RX8, "holdPack", "()V"⟩
abbrev cX8_end : ByteArray := prog_10_method_8_code
def yX8_end : MethodName := ⟨RX8, "end", "()V"⟩
def RX9 : String := "PackThreads"
def TX9 : u_T := fun k => match k with
  | 0 => ("PackThreads", "text", "LPackThreads$Text;", true)
  | 1 => ("PackThreads", "settings", "LPackThreads$Settings;", true)
  | 2 => ("PackThreads", "plants", "LPackThreads$Plants;", true)
  | 3 => ("PackThreads", "packs", "LPackThreads$Packs;", true)
  | 4 => ("PackThreads", "stream", "LPackThreads$Stream;", true)
  | _ => ("PackThreads", "begun", "Z", false)
def tyX9 : Nat → FieldType := fun k => match k with
  | 0 => .object "PackThreads$Text"
  | 1 => .object "PackThreads$Settings"
  | 2 => .object "PackThreads$Plants"
  | 3 => .object "PackThreads$Packs"
  | 4 => .object "PackThreads$Stream"
  | _ => .boolean
abbrev wsX90 : List Cond := u_ws RX9 TX9 6
theorem nmX9 : ∀ a, a < 6 → ∀ b, b < 6 → a ≠ b → (TX9 a).2.1 ≠ (TX9 b).2.1 := by decide +kernel
theorem tyX9_ok : ∀ k, k < 6 → parseFieldDescriptor (TX9 k).2.2.1 = some (tyX9 k) := by decide +kernel
abbrev cX9_init : ByteArray := prog_1_method_1_code
def yX9_init : MethodName := ⟨RX9, "<init>", "()V"⟩
abbrev cX9_type : ByteArray := prog_1_method_2_code
def yX9_type : MethodName := ⟨RX9, "type", "(I)I"⟩
abbrev cX9_set : ByteArray := prog_1_method_3_code
def yX9_set : MethodName := ⟨RX9, "set", "(II)I"⟩
abbrev cX9_plant : ByteArray := prog_1_method_4_code
def yX9_plant : MethodName := ⟨RX9, "plant", "(IIIZ)I"⟩
abbrev cX9_begin : ByteArray := prog_1_method_5_code
def yX9_begin : MethodName := ⟨RX9, "begin", "(I)I"⟩
abbrev cX9_turn : ByteArray := prog_1_method_6_code
def yX9_turn : MethodName := ⟨RX9, "turn", "(I)I"⟩
abbrev cX9_run : ByteArray := prog_1_method_7_code
def yX9_run : MethodName := ⟨RX9, "run", "(I)I"⟩
abbrev cX9_interrupt : ByteArray := prog_1_method_8_code
def yX9_interrupt : MethodName := ⟨RX9, "interrupt", "(I)I"⟩
abbrev cX9_thread : ByteArray := prog_1_method_9_code
def yX9_thread : MethodName := ⟨RX9, "thread", "(II)I"⟩
abbrev cX9_out : ByteArray := prog_1_method_10_code
def yX9_out : MethodName := ⟨RX9, "out", "(I)I"⟩
abbrev cX9_told : ByteArray := prog_1_method_11_code
def yX9_told : MethodName := ⟨RX9, "told", "(I)I"⟩
abbrev cX9_waiting : ByteArray := prog_1_method_12_code
def yX9_waiting : MethodName := ⟨RX9, "waiting", "(I)I"⟩
abbrev cX9_plain : ByteArray := prog_1_method_13_code
def yX9_plain : MethodName := ⟨RX9, "plain", "(I)I"⟩
abbrev cX9_close : ByteArray := prog_1_method_14_code
def yX9_close : MethodName := ⟨RX9, "close", "()I"⟩
abbrev cX9_clear : ByteArray := prog_1_method_15_code
def yX9_clear : MethodName := ⟨RX9, "clear", "()I"⟩
abbrev cX9_isThread : ByteArray := prog_1_method_16_code
def yX9_isThread : MethodName := ⟨RX9, "isThread", "(I)Z"⟩
def RX10 : String := "PackThreadsModel"
def TX10 : u_T := fun k => match k with
  | 0 => ("PackThreadsModel", "text", "[I", true)
  | 1 => ("PackThreadsModel", "size", "I", false)
  | 2 => ("PackThreadsModel", "blockSize", "I", false)
  | 3 => ("PackThreadsModel", "window", "I", false)
  | 4 => ("PackThreadsModel", "cells", "I", false)
  | 5 => ("PackThreadsModel", "most", "I", false)
  | 6 => ("PackThreadsModel", "plantKind", "[I", true)
  | 7 => ("PackThreadsModel", "plantStep", "[I", true)
  | 8 => ("PackThreadsModel", "plantTwice", "[Z", true)
  | 9 => ("PackThreadsModel", "isPacked", "Z", false)
  | 10 => ("PackThreadsModel", "packed", "I", false)
  | 11 => ("PackThreadsModel", "pack", "[I", true)
  | 12 => ("PackThreadsModel", "packEnd", "[I", true)
  | 13 => ("PackThreadsModel", "tokens", "[I", true)
  | 14 => ("PackThreadsModel", "isBegun", "Z", false)
  | 15 => ("PackThreadsModel", "threads", "I", false)
  | 16 => ("PackThreadsModel", "blocks", "I", false)
  | 17 => ("PackThreadsModel", "state", "[I", true)
  | 18 => ("PackThreadsModel", "block", "[I", true)
  | 19 => ("PackThreadsModel", "step", "[I", true)
  | 20 => ("PackThreadsModel", "made", "[I", true)
  | 21 => ("PackThreadsModel", "ended", "[I", true)
  | 22 => ("PackThreadsModel", "isInterrupted", "[Z", true)
  | 23 => ("PackThreadsModel", "latest", "I", false)
  | 24 => ("PackThreadsModel", "never", "I", false)
  | 25 => ("PackThreadsModel", "hasFailed", "[Z", true)
  | 26 => ("PackThreadsModel", "again", "[I", true)
  | 27 => ("PackThreadsModel", "againMany", "I", false)
  | 28 => ("PackThreadsModel", "inRow", "[Z", true)
  | 29 => ("PackThreadsModel", "rowMany", "I", false)
  | 30 => ("PackThreadsModel", "joined", "I", false)
  | 31 => ("PackThreadsModel", "left", "I", false)
  | 32 => ("PackThreadsModel", "line", "[I", true)
  | 33 => ("PackThreadsModel", "lineMany", "I", false)
  | 34 => ("PackThreadsModel", "stopBlock", "I", false)
  | 35 => ("PackThreadsModel", "stopKind", "I", false)
  | 36 => ("PackThreadsModel", "failures", "I", false)
  | _ => ("PackThreadsModel", "turns", "I", false)
def tyX10 : Nat → FieldType := fun k => match k with
  | 0 => .array .int
  | 1 => .int
  | 2 => .int
  | 3 => .int
  | 4 => .int
  | 5 => .int
  | 6 => .array .int
  | 7 => .array .int
  | 8 => .array .boolean
  | 9 => .boolean
  | 10 => .int
  | 11 => .array .int
  | 12 => .array .int
  | 13 => .array .int
  | 14 => .boolean
  | 15 => .int
  | 16 => .int
  | 17 => .array .int
  | 18 => .array .int
  | 19 => .array .int
  | 20 => .array .int
  | 21 => .array .int
  | 22 => .array .boolean
  | 23 => .int
  | 24 => .int
  | 25 => .array .boolean
  | 26 => .array .int
  | 27 => .int
  | 28 => .array .boolean
  | 29 => .int
  | 30 => .int
  | 31 => .int
  | 32 => .array .int
  | 33 => .int
  | 34 => .int
  | 35 => .int
  | 36 => .int
  | _ => .int
abbrev wsX100 : List Cond := u_ws RX10 TX10 38
theorem nmX10 : ∀ a, a < 38 → ∀ b, b < 38 → a ≠ b → (TX10 a).2.1 ≠ (TX10 b).2.1 := by decide +kernel
theorem tyX10_ok : ∀ k, k < 38 → parseFieldDescriptor (TX10 k).2.2.1 = some (tyX10 k) := by decide +kernel
abbrev cX10_init : ByteArray := prog_12_method_1_code
def yX10_init : MethodName := ⟨RX10, "<init>", "()V"⟩
abbrev cX10_in : ByteArray := prog_12_method_3_code
def yX10_in : MethodName := ⟨RX10, "in", "(III)Z"⟩
abbrev cX10_type : ByteArray := prog_12_method_4_code
def yX10_type : MethodName := ⟨RX10, "type", "(I)I"⟩
abbrev cX10_set : ByteArray := prog_12_method_5_code
def yX10_set : MethodName := ⟨RX10, "set", "(II)I"⟩
abbrev cX10_plant : ByteArray := prog_12_method_6_code
def yX10_plant : MethodName := ⟨RX10, "plant", "(IIIZ)I"⟩
abbrev cX10_many : ByteArray := prog_12_method_7_code
def yX10_many : MethodName := ⟨RX10, "many", "()I"⟩
abbrev cX10_lengthOf : ByteArray := prog_12_method_8_code
def yX10_lengthOf : MethodName := ⟨RX10, "lengthOf", "(I)I"⟩
abbrev cX10_alike : ByteArray := prog_12_method_9_code
def yX10_alike : MethodName := ⟨RX10, "alike", "(III)I"⟩
abbrev cX10_lay : ByteArray := prog_12_method_10_code
def yX10_lay : MethodName := ⟨RX10, "lay", "(I)V"⟩
abbrev cX10_packAll : ByteArray := prog_12_method_11_code
def yX10_packAll : MethodName := ⟨RX10, "packAll", "()V"⟩
abbrev cX10_packOne : ByteArray := prog_12_method_12_code
def yX10_packOne : MethodName := ⟨RX10, "packOne", "(I)V"⟩
abbrev cX10_plainTo : ByteArray := prog_12_method_13_code
def yX10_plainTo : MethodName := ⟨RX10, "plainTo", "(II)V"⟩
abbrev cX10_plain : ByteArray := prog_12_method_14_code
def yX10_plain : MethodName := ⟨RX10, "plain", "(I)I"⟩
abbrev cX10_begin : ByteArray := prog_12_method_15_code
def yX10_begin : MethodName := ⟨RX10, "begin", "(I)I"⟩
abbrev cX10_isStopped : ByteArray := prog_12_method_16_code
def yX10_isStopped : MethodName := ⟨RX10, "isStopped", "()Z"⟩
abbrev cX10_ends : ByteArray := prog_12_method_17_code
def yX10_ends : MethodName := ⟨RX10, "ends", "(I)V"⟩
abbrev cX10_works : ByteArray := prog_12_method_18_code
def yX10_works : MethodName := ⟨RX10, "works", "(I)V"⟩
abbrev cX10_takes : ByteArray := prog_12_method_19_code
def yX10_takes : MethodName := ⟨RX10, "takes", "(II)V"⟩
abbrev cX10_givesBack : ByteArray := prog_12_method_20_code
def yX10_givesBack : MethodName := ⟨RX10, "givesBack", "(I)V"⟩
abbrev cX10_leaves : ByteArray := prog_12_method_21_code
def yX10_leaves : MethodName := ⟨RX10, "leaves", "(I)V"⟩
abbrev cX10_isSome : ByteArray := prog_12_method_22_code
def yX10_isSome : MethodName := ⟨RX10, "isSome", "(IZ)Z"⟩
abbrev cX10_free : ByteArray := prog_12_method_23_code
def yX10_free : MethodName := ⟨RX10, "free", "(I)I"⟩
abbrev cX10_work : ByteArray := prog_12_method_24_code
def yX10_work : MethodName := ⟨RX10, "work", "(I)I"⟩
abbrev cX10_lays : ByteArray := prog_12_method_25_code
def yX10_lays : MethodName := ⟨RX10, "lays", "(I)I"⟩
abbrev cX10_act : ByteArray := prog_12_method_26_code
def yX10_act : MethodName := ⟨RX10, "act", "(I)I"⟩
abbrev cX10_isThread : ByteArray := prog_12_method_27_code
def yX10_isThread : MethodName := ⟨RX10, "isThread", "(I)Z"⟩
abbrev cX10_turn : ByteArray := prog_12_method_28_code
def yX10_turn : MethodName := ⟨RX10, "turn", "(I)I"⟩
abbrev cX10_isOver : ByteArray := prog_12_method_29_code
def yX10_isOver : MethodName := ⟨RX10, "isOver", "()Z"⟩
abbrev cX10_run : ByteArray := prog_12_method_30_code
def yX10_run : MethodName := ⟨RX10, "run", "(I)I"⟩
abbrev cX10_interrupt : ByteArray := prog_12_method_31_code
def yX10_interrupt : MethodName := ⟨RX10, "interrupt", "(I)I"⟩
abbrev cX10_thread : ByteArray := prog_12_method_32_code
def yX10_thread : MethodName := ⟨RX10, "thread", "(II)I"⟩
abbrev cX10_outSize : ByteArray := prog_12_method_33_code
def yX10_outSize : MethodName := ⟨RX10, "outSize", "()I"⟩
abbrev cX10_out : ByteArray := prog_12_method_34_code
def yX10_out : MethodName := ⟨RX10, "out", "(I)I"⟩
abbrev cX10_told : ByteArray := prog_12_method_35_code
def yX10_told : MethodName := ⟨RX10, "told", "(I)I"⟩
abbrev cX10_waiting : ByteArray := prog_12_method_36_code
def yX10_waiting : MethodName := ⟨RX10, "waiting", "(I)I"⟩
abbrev cX10_close : ByteArray := prog_12_method_37_code
def yX10_close : MethodName := ⟨RX10, "close", "()I"⟩
abbrev cX10_clear : ByteArray := prog_12_method_38_code
def yX10_clear : MethodName := ⟨RX10, "clear", "()I"⟩
def RJ9 : String := "java/lang/Math"
def TJ9 : u_T := fun k => match k with
  | _ => ("", "", "", false)
def tyJ9 : Nat → FieldType := fun k => match k with
  | _ => .int
abbrev wsJ90 : List Cond := u_ws RJ9 TJ9 0
theorem nmJ9 : ∀ a, a < 0 → ∀ b, b < 0 → a ≠ b → (TJ9 a).2.1 ≠ (TJ9 b).2.1 := by decide +kernel
theorem tyJ9_ok : ∀ k, k < 0 → parseFieldDescriptor (TJ9 k).2.2.1 = some (tyJ9 k) := by decide +kernel
abbrev cJ9_max_7cf53 : ByteArray := prog_13_method_65_code
def yJ9_max_7cf53 : MethodName := ⟨RJ9, "max", "(II)I"⟩
abbrev cJ9_min_7cf53 : ByteArray := prog_13_method_69_code
def yJ9_min_7cf53 : MethodName := ⟨RJ9, "min", "(II)I"⟩
def RL : String := "PackThreadsLaw"
abbrev cL_law : ByteArray := code
def yL_law : MethodName := ⟨RL, "law", "([I)Z"⟩
def wsX0_init : List Cond := .code yX0_init cX0_init 1 none :: ([.methodLink RX0 3 objectInit, .instanceMethod objectInit, .code objectInit ⟨#[0xb1]⟩ 1 none, .arrayClass .boolean, .fieldLink RX0 9 "PackThreads$Failed" "before" "[Z", .arrayClass .int, .fieldLink RX0 15 "PackThreads$Failed" "line" "[I"] ++ wsX00)
def wsX0_renew : List Cond := .code yX0_renew cX0_renew 2 none :: ([.fieldLink RX0 9 "PackThreads$Failed" "before" "[Z", .fieldLink RX0 19 "PackThreads$Failed" "inLine" "I"] ++ wsX00)
def wsX0_has : List Cond := .code yX0_has cX0_has 2 (some .boolean) :: ([.fieldLink RX0 9 "PackThreads$Failed" "before" "[Z"] ++ wsX00)
def wsX0_add : List Cond := .code yX0_add cX0_add 2 none :: ([.fieldLink RX0 9 "PackThreads$Failed" "before" "[Z", .fieldLink RX0 19 "PackThreads$Failed" "inLine" "I", .fieldLink RX0 15 "PackThreads$Failed" "line" "[I"] ++ wsX00)
def wsX0_takeFirst : List Cond := .code yX0_takeFirst cX0_takeFirst 3 (some .int) :: ([.fieldLink RX0 19 "PackThreads$Failed" "inLine" "I", .fieldLink RX0 15 "PackThreads$Failed" "line" "[I"] ++ wsX00)
def wsX1_init : List Cond := .code yX1_init cX1_init 1 none :: ([.methodLink RX1 3 objectInit, .instanceMethod objectInit, .code objectInit ⟨#[0xb1]⟩ 1 none, .classLink RX1 9 RX8, .fieldLink RX1 11 "PackThreads$Memory" "line" "[LPackThreads$Worker;"] ++ wsX10)
def wsX1_fill : List Cond := .code yX1_fill cX1_fill 2 none :: ([.fieldLink RX1 17 "PackThreads$Memory" "left" "I", .fieldLink RX1 21 "PackThreads$Memory" "inLine" "I"] ++ wsX10)
def wsX8_startWork : List Cond := .code yX8_startWork cX8_startWork 1 none :: ([.fieldLink RX8 28 "PackThreads$Worker" "state" "I", .fieldLink RX8 34 "PackThreads$Worker" "step" "I"] ++ wsX80)
def wsX8_waitInLine : List Cond := .code yX8_waitInLine cX8_waitInLine 1 none :: ([.fieldLink RX8 28 "PackThreads$Worker" "state" "I"] ++ wsX80)
def wsX1_ask : List Cond := .code yX1_ask cX1_ask 2 none :: ([.fieldLink RX1 21 "PackThreads$Memory" "inLine" "I", .fieldLink RX1 17 "PackThreads$Memory" "left" "I", .fieldLink RX1 11 "PackThreads$Memory" "line" "[LPackThreads$Worker;", .methodLink RX1 27 yX8_startWork, .instanceMethod yX8_startWork, .selects RX8 yX8_startWork yX8_startWork, .initialized RX8, .code yX8_startWork cX8_startWork 1 none, .fieldLink RX8 28 "PackThreads$Worker" "state" "I", .fieldLink RX8 34 "PackThreads$Worker" "step" "I", .methodLink RX1 30 yX8_waitInLine, .instanceMethod yX8_waitInLine, .selects RX8 yX8_waitInLine yX8_waitInLine, .code yX8_waitInLine cX8_waitInLine 1 none] ++ wsX10 ++ wsX80)
def wsX1_dropFirst : List Cond := .code yX1_dropFirst cX1_dropFirst 2 none :: ([.fieldLink RX1 21 "PackThreads$Memory" "inLine" "I", .fieldLink RX1 11 "PackThreads$Memory" "line" "[LPackThreads$Worker;"] ++ wsX10)
def wsX1_giveBack : List Cond := .code yX1_giveBack cX1_giveBack 4 none :: ([.fieldLink RX1 17 "PackThreads$Memory" "left" "I", .fieldLink RX1 21 "PackThreads$Memory" "inLine" "I", .fieldLink RX1 11 "PackThreads$Memory" "line" "[LPackThreads$Worker;", .methodLink RX1 33 yX1_dropFirst, .instanceMethod yX1_dropFirst, .selects RX1 yX1_dropFirst yX1_dropFirst, .initialized RX1, .code yX1_dropFirst cX1_dropFirst 2 none, .methodLink RX1 27 yX8_startWork, .instanceMethod yX8_startWork, .selects RX8 yX8_startWork yX8_startWork, .initialized RX8, .code yX8_startWork cX8_startWork 1 none, .fieldLink RX8 28 "PackThreads$Worker" "state" "I", .fieldLink RX8 34 "PackThreads$Worker" "step" "I"] ++ wsX10 ++ wsX80)
def wsX1_numberAt : List Cond := .code yX1_numberAt cX1_numberAt 3 (some .int) :: ([.fieldLink RX1 21 "PackThreads$Memory" "inLine" "I", .fieldLink RX1 11 "PackThreads$Memory" "line" "[LPackThreads$Worker;"] ++ wsX10 ++ wsX80)
def wsX2_init : List Cond := .code yX2_init cX2_init 3 none :: ([.methodLink RX2 3 objectInit, .instanceMethod objectInit, .code objectInit ⟨#[0xb1]⟩ 1 none, .arrayClass .int, .fieldLink RX2 9 "PackThreads$Packs" "bytes" "[I", .fieldLink RX2 15 "PackThreads$Packs" "ends" "[I", .fieldLink RX2 18 "PackThreads$Packs" "tokens" "[I", .fieldLink RX2 21 "PackThreads$Packs" "text" "LPackThreads$Text;", .fieldLink RX2 25 "PackThreads$Packs" "settings" "LPackThreads$Settings;"] ++ wsX20)
def wsX2_forget : List Cond := .code yX2_forget cX2_forget 1 none :: ([.fieldLink RX2 29 "PackThreads$Packs" "made" "Z"] ++ wsX20)
def wsX5_size : List Cond := .code yX5_size cX5_size 1 (some .int) :: ([.fieldLink RX5 7 "PackThreads$Settings" "size" "I"] ++ wsX50)
def wsX7_length : List Cond := .code yX7_length cX7_length 1 (some .int) :: ([.fieldLink RX7 15 "PackThreads$Text" "length" "I"] ++ wsX70)
def wsX2_blocksOfText : List Cond := .code yX2_blocksOfText cX2_blocksOfText 2 (some .int) :: ([.fieldLink RX2 25 "PackThreads$Packs" "settings" "LPackThreads$Settings;", .fieldLink RX2 21 "PackThreads$Packs" "text" "LPackThreads$Text;", .methodLink RX2 44 yX5_size, .instanceMethod yX5_size, .selects RX5 yX5_size yX5_size, .initialized RX5, .code yX5_size cX5_size 1 (some .int), .fieldLink RX5 7 "PackThreads$Settings" "size" "I", .methodLink RX2 57 yX7_length, .instanceMethod yX7_length, .selects RX7 yX7_length yX7_length, .initialized RX7, .code yX7_length cX7_length 1 (some .int), .fieldLink RX7 15 "PackThreads$Text" "length" "I"] ++ wsX20 ++ wsX50 ++ wsX70)
def wsX2_bytesOf : List Cond := .code yX2_bytesOf cX2_bytesOf 3 (some .int) :: ([.fieldLink RX2 25 "PackThreads$Packs" "settings" "LPackThreads$Settings;", .fieldLink RX2 21 "PackThreads$Packs" "text" "LPackThreads$Text;", .methodLink RX2 94 Lib.Math.min.name, .static Lib.Math.min.name, .initialized "java/lang/Math", .code Lib.Math.min.name Lib.Math.min.code 2 (some .int), .methodLink RX2 83 Lib.Math.max.name, .static Lib.Math.max.name, .code Lib.Math.max.name Lib.Math.max.code 2 (some .int), .methodLink RX2 44 yX5_size, .instanceMethod yX5_size, .selects RX5 yX5_size yX5_size, .initialized RX5, .code yX5_size cX5_size 1 (some .int), .fieldLink RX5 7 "PackThreads$Settings" "size" "I", .methodLink RX2 57 yX7_length, .instanceMethod yX7_length, .selects RX7 yX7_length yX7_length, .initialized RX7, .code yX7_length cX7_length 1 (some .int), .fieldLink RX7 15 "PackThreads$Text" "length" "I"] ++ wsX20 ++ wsX50 ++ wsX70)
def wsX5_window : List Cond := .code yX5_window cX5_window 1 (some .int) :: ([.fieldLink RX5 13 "PackThreads$Settings" "window" "I"] ++ wsX50)
def wsX7_at : List Cond := .code yX7_at cX7_at 2 (some .int) :: ([.fieldLink RX7 15 "PackThreads$Text" "length" "I", .fieldLink RX7 9 "PackThreads$Text" "bytes" "[I"] ++ wsX70)
def wsX2_alike : List Cond := .code yX2_alike cX2_alike 5 (some .int) :: ([.fieldLink RX2 21 "PackThreads$Packs" "text" "LPackThreads$Text;", .methodLink RX2 72 yX7_at, .instanceMethod yX7_at, .selects RX7 yX7_at yX7_at, .initialized RX7, .code yX7_at cX7_at 2 (some .int), .fieldLink RX7 15 "PackThreads$Text" "length" "I", .fieldLink RX7 9 "PackThreads$Text" "bytes" "[I"] ++ wsX20 ++ wsX70)
def wsX2_bestDistance : List Cond := .code yX2_bestDistance cX2_bestDistance 8 (some .int) :: ([.fieldLink RX2 25 "PackThreads$Packs" "settings" "LPackThreads$Settings;", .methodLink RX2 94 Lib.Math.min.name, .static Lib.Math.min.name, .initialized "java/lang/Math", .code Lib.Math.min.name Lib.Math.min.code 2 (some .int), .methodLink RX2 91 yX5_window, .instanceMethod yX5_window, .selects RX5 yX5_window yX5_window, .initialized RX5, .code yX5_window cX5_window 1 (some .int), .fieldLink RX5 13 "PackThreads$Settings" "window" "I", .methodLink RX2 68 yX2_alike, .instanceMethod yX2_alike, .selects RX2 yX2_alike yX2_alike, .initialized RX2, .code yX2_alike cX2_alike 5 (some .int), .fieldLink RX2 21 "PackThreads$Packs" "text" "LPackThreads$Text;", .methodLink RX2 72 yX7_at, .instanceMethod yX7_at, .selects RX7 yX7_at yX7_at, .initialized RX7, .code yX7_at cX7_at 2 (some .int), .fieldLink RX7 15 "PackThreads$Text" "length" "I", .fieldLink RX7 9 "PackThreads$Text" "bytes" "[I"] ++ wsX20 ++ wsX50 ++ wsX70)
def wsX2_put : List Cond := .code yX2_put cX2_put 2 none :: ([.fieldLink RX2 33 "PackThreads$Packs" "count" "I", .fieldLink RX2 9 "PackThreads$Packs" "bytes" "[I"] ++ wsX20)
def wsX2_putByte : List Cond := .code yX2_putByte cX2_putByte 2 none :: ([.fieldLink RX2 62 "PackThreads$Packs" "runAt" "I", .fieldLink RX2 33 "PackThreads$Packs" "count" "I", .fieldLink RX2 9 "PackThreads$Packs" "bytes" "[I", .methodLink RX2 88 yX2_put, .instanceMethod yX2_put, .selects RX2 yX2_put yX2_put, .initialized RX2, .code yX2_put cX2_put 2 none] ++ wsX20)
def wsX2_putCopy : List Cond := .code yX2_putCopy cX2_putCopy 3 none :: ([.fieldLink RX2 62 "PackThreads$Packs" "runAt" "I", .methodLink RX2 88 yX2_put, .instanceMethod yX2_put, .selects RX2 yX2_put yX2_put, .initialized RX2, .code yX2_put cX2_put 2 none, .fieldLink RX2 33 "PackThreads$Packs" "count" "I", .fieldLink RX2 9 "PackThreads$Packs" "bytes" "[I"] ++ wsX20)
def wsX2_packBytes_r1 : List Cond := [Cond.fieldLink RX2 62 "PackThreads$Packs" "runAt" "I", Cond.fieldLink RX2 21 "PackThreads$Packs" "text" "LPackThreads$Text;", Cond.methodLink RX2 83 Lib.Math.max.name, Cond.static Lib.Math.max.name, Cond.initialized "java/lang/Math", Cond.code Lib.Math.max.name Lib.Math.max.code 2 (some .int), Cond.methodLink RX2 65 yX2_bestDistance, Cond.instanceMethod yX2_bestDistance, Cond.selects RX2 yX2_bestDistance yX2_bestDistance, Cond.initialized RX2, Cond.code yX2_bestDistance cX2_bestDistance 8 (some .int), Cond.fieldLink RX2 25 "PackThreads$Packs" "settings" "LPackThreads$Settings;", Cond.methodLink RX2 94 Lib.Math.min.name, Cond.static Lib.Math.min.name, Cond.code Lib.Math.min.name Lib.Math.min.code 2 (some .int), Cond.methodLink RX2 91 yX5_window, Cond.instanceMethod yX5_window, Cond.selects RX5 yX5_window yX5_window, Cond.initialized RX5, Cond.code yX5_window cX5_window 1 (some .int), Cond.fieldLink RX5 13 "PackThreads$Settings" "window" "I", Cond.methodLink RX2 68 yX2_alike, Cond.instanceMethod yX2_alike, Cond.selects RX2 yX2_alike yX2_alike]
def wsX2_packBytes_r2 : List Cond := [Cond.code yX2_alike cX2_alike 5 (some .int), Cond.methodLink RX2 72 yX7_at, Cond.instanceMethod yX7_at, Cond.selects RX7 yX7_at yX7_at, Cond.initialized RX7, Cond.code yX7_at cX7_at 2 (some .int), Cond.fieldLink RX7 15 "PackThreads$Text" "length" "I", Cond.fieldLink RX7 9 "PackThreads$Text" "bytes" "[I", Cond.methodLink RX2 75 yX2_putByte, Cond.instanceMethod yX2_putByte, Cond.selects RX2 yX2_putByte yX2_putByte, Cond.code yX2_putByte cX2_putByte 2 none, Cond.fieldLink RX2 33 "PackThreads$Packs" "count" "I", Cond.fieldLink RX2 9 "PackThreads$Packs" "bytes" "[I", Cond.methodLink RX2 88 yX2_put, Cond.instanceMethod yX2_put, Cond.selects RX2 yX2_put yX2_put, Cond.code yX2_put cX2_put 2 none, Cond.methodLink RX2 79 yX2_putCopy, Cond.instanceMethod yX2_putCopy, Cond.selects RX2 yX2_putCopy yX2_putCopy, Cond.code yX2_putCopy cX2_putCopy 3 none]
def wsX2_packBytes : List Cond := .code yX2_packBytes cX2_packBytes 7 (some .int) :: ((wsX2_packBytes_r1 ++ wsX2_packBytes_r2) ++ wsX20 ++ wsX50 ++ wsX70)
def wsX2_make_r1 : List Cond := [Cond.fieldLink RX2 29 "PackThreads$Packs" "made" "Z", Cond.fieldLink RX2 33 "PackThreads$Packs" "count" "I", Cond.fieldLink RX2 41 "PackThreads$Packs" "blocks" "I", Cond.fieldLink RX2 25 "PackThreads$Packs" "settings" "LPackThreads$Settings;", Cond.fieldLink RX2 18 "PackThreads$Packs" "tokens" "[I", Cond.fieldLink RX2 15 "PackThreads$Packs" "ends" "[I", Cond.methodLink RX2 37 yX2_blocksOfText, Cond.instanceMethod yX2_blocksOfText, Cond.selects RX2 yX2_blocksOfText yX2_blocksOfText, Cond.initialized RX2, Cond.code yX2_blocksOfText cX2_blocksOfText 2 (some .int), Cond.fieldLink RX2 21 "PackThreads$Packs" "text" "LPackThreads$Text;", Cond.methodLink RX2 44 yX5_size, Cond.instanceMethod yX5_size, Cond.selects RX5 yX5_size yX5_size, Cond.initialized RX5, Cond.code yX5_size cX5_size 1 (some .int), Cond.fieldLink RX5 7 "PackThreads$Settings" "size" "I", Cond.methodLink RX2 57 yX7_length, Cond.instanceMethod yX7_length, Cond.selects RX7 yX7_length yX7_length, Cond.initialized RX7, Cond.code yX7_length cX7_length 1 (some .int), Cond.fieldLink RX7 15 "PackThreads$Text" "length" "I"]
def wsX2_make_r2 : List Cond := [Cond.methodLink RX2 49 yX2_bytesOf, Cond.instanceMethod yX2_bytesOf, Cond.selects RX2 yX2_bytesOf yX2_bytesOf, Cond.code yX2_bytesOf cX2_bytesOf 3 (some .int), Cond.methodLink RX2 94 Lib.Math.min.name, Cond.static Lib.Math.min.name, Cond.initialized "java/lang/Math", Cond.code Lib.Math.min.name Lib.Math.min.code 2 (some .int), Cond.methodLink RX2 83 Lib.Math.max.name, Cond.static Lib.Math.max.name, Cond.code Lib.Math.max.name Lib.Math.max.code 2 (some .int), Cond.methodLink RX2 53 yX2_packBytes, Cond.instanceMethod yX2_packBytes, Cond.selects RX2 yX2_packBytes yX2_packBytes, Cond.code yX2_packBytes cX2_packBytes 7 (some .int), Cond.fieldLink RX2 62 "PackThreads$Packs" "runAt" "I", Cond.methodLink RX2 65 yX2_bestDistance, Cond.instanceMethod yX2_bestDistance, Cond.selects RX2 yX2_bestDistance yX2_bestDistance, Cond.code yX2_bestDistance cX2_bestDistance 8 (some .int), Cond.methodLink RX2 91 yX5_window, Cond.instanceMethod yX5_window, Cond.selects RX5 yX5_window yX5_window, Cond.code yX5_window cX5_window 1 (some .int)]
def wsX2_make_r3 : List Cond := [Cond.fieldLink RX5 13 "PackThreads$Settings" "window" "I", Cond.methodLink RX2 68 yX2_alike, Cond.instanceMethod yX2_alike, Cond.selects RX2 yX2_alike yX2_alike, Cond.code yX2_alike cX2_alike 5 (some .int), Cond.methodLink RX2 72 yX7_at, Cond.instanceMethod yX7_at, Cond.selects RX7 yX7_at yX7_at, Cond.code yX7_at cX7_at 2 (some .int), Cond.fieldLink RX7 9 "PackThreads$Text" "bytes" "[I", Cond.methodLink RX2 75 yX2_putByte, Cond.instanceMethod yX2_putByte, Cond.selects RX2 yX2_putByte yX2_putByte, Cond.code yX2_putByte cX2_putByte 2 none, Cond.fieldLink RX2 9 "PackThreads$Packs" "bytes" "[I", Cond.methodLink RX2 88 yX2_put, Cond.instanceMethod yX2_put, Cond.selects RX2 yX2_put yX2_put, Cond.code yX2_put cX2_put 2 none, Cond.methodLink RX2 79 yX2_putCopy, Cond.instanceMethod yX2_putCopy, Cond.selects RX2 yX2_putCopy yX2_putCopy, Cond.code yX2_putCopy cX2_putCopy 3 none]
def wsX2_make : List Cond := .code yX2_make cX2_make 3 none :: ((wsX2_make_r1 ++ (wsX2_make_r2 ++ wsX2_make_r3)) ++ wsX20 ++ wsX50 ++ wsX70)
def wsX2_blocks : List Cond := .code yX2_blocks cX2_blocks 1 (some .int) :: ([.fieldLink RX2 41 "PackThreads$Packs" "blocks" "I"] ++ wsX20)
def wsX2_tokensOf : List Cond := .code yX2_tokensOf cX2_tokensOf 2 (some .int) :: ([.fieldLink RX2 18 "PackThreads$Packs" "tokens" "[I"] ++ wsX20)
def wsX2_byteAt : List Cond := .code yX2_byteAt cX2_byteAt 2 (some .int) :: ([.fieldLink RX2 33 "PackThreads$Packs" "count" "I", .fieldLink RX2 9 "PackThreads$Packs" "bytes" "[I"] ++ wsX20)
def wsX2_lengthOfFirst : List Cond := .code yX2_lengthOfFirst cX2_lengthOfFirst 2 (some .int) :: ([.fieldLink RX2 15 "PackThreads$Packs" "ends" "[I"] ++ wsX20)
def wsX3_init : List Cond := .code yX3_init cX3_init 1 none :: ([.methodLink RX3 3 objectInit, .instanceMethod objectInit, .code objectInit ⟨#[0xb1]⟩ 1 none, .arrayClass .int, .fieldLink RX3 9 "PackThreads$Plants" "steps" "[I", .fieldLink RX3 15 "PackThreads$Plants" "kinds" "[I", .arrayClass .boolean, .fieldLink RX3 18 "PackThreads$Plants" "forTwice" "[Z"] ++ wsX30)
def wsX3_put : List Cond := .code yX3_put cX3_put 5 none :: ([.fieldLink RX3 9 "PackThreads$Plants" "steps" "[I", .fieldLink RX3 15 "PackThreads$Plants" "kinds" "[I", .fieldLink RX3 18 "PackThreads$Plants" "forTwice" "[Z"] ++ wsX30)
def wsX3_kindAt : List Cond := .code yX3_kindAt cX3_kindAt 4 (some .int) :: ([.fieldLink RX3 9 "PackThreads$Plants" "steps" "[I", .fieldLink RX3 18 "PackThreads$Plants" "forTwice" "[Z", .fieldLink RX3 15 "PackThreads$Plants" "kinds" "[I"] ++ wsX30)
def wsX3_removeAll : List Cond := .code yX3_removeAll cX3_removeAll 2 none :: ([.fieldLink RX3 15 "PackThreads$Plants" "kinds" "[I"] ++ wsX30)
def wsX4_init : List Cond := .code yX4_init cX4_init 1 none :: ([.methodLink RX4 3 objectInit, .instanceMethod objectInit, .code objectInit ⟨#[0xb1]⟩ 1 none, .arrayClass .boolean, .fieldLink RX4 9 "PackThreads$Row" "kept" "[Z"] ++ wsX40)
def wsX4_renew : List Cond := .code yX4_renew cX4_renew 3 none :: ([.fieldLink RX4 9 "PackThreads$Row" "kept" "[Z", .fieldLink RX4 15 "PackThreads$Row" "packs" "I", .fieldLink RX4 19 "PackThreads$Row" "limit" "I", .fieldLink RX4 22 "PackThreads$Row" "joined" "I"] ++ wsX40)
def wsX4_lay : List Cond := .code yX4_lay cX4_lay 2 (some .boolean) :: ([.fieldLink RX4 9 "PackThreads$Row" "kept" "[Z", .fieldLink RX4 22 "PackThreads$Row" "joined" "I", .fieldLink RX4 15 "PackThreads$Row" "packs" "I", .fieldLink RX4 19 "PackThreads$Row" "limit" "I"] ++ wsX40)
def wsX5_init : List Cond := .code yX5_init cX5_init 1 none :: ([.methodLink RX5 1 objectInit, .instanceMethod objectInit, .code objectInit ⟨#[0xb1]⟩ 1 none, .fieldLink RX5 7 "PackThreads$Settings" "size" "I", .fieldLink RX5 13 "PackThreads$Settings" "window" "I", .fieldLink RX5 16 "PackThreads$Settings" "cells" "I", .fieldLink RX5 19 "PackThreads$Settings" "rowLimit" "I"] ++ wsX50)
def wsX5_allows : List Cond := .code yX5_allows cX5_allows 3 (some .boolean) :: ([.fieldLink RX5 22 "PackThreads$Settings" "LEAST" "[I", .fieldLink RX5 26 "PackThreads$Settings" "MOST" "[I"])
def wsX5_replace : List Cond := .code yX5_replace cX5_replace 4 (some .int) :: ([.fieldLink RX5 7 "PackThreads$Settings" "size" "I", .fieldLink RX5 13 "PackThreads$Settings" "window" "I", .fieldLink RX5 16 "PackThreads$Settings" "cells" "I", .fieldLink RX5 19 "PackThreads$Settings" "rowLimit" "I"] ++ wsX50)
def wsX5_cells : List Cond := .code yX5_cells cX5_cells 1 (some .int) :: ([.fieldLink RX5 16 "PackThreads$Settings" "cells" "I"] ++ wsX50)
def wsX5_rowLimit : List Cond := .code yX5_rowLimit cX5_rowLimit 1 (some .int) :: ([.fieldLink RX5 19 "PackThreads$Settings" "rowLimit" "I"] ++ wsX50)
def wsX8_init : List Cond := .code yX8_init cX8_init 2 none :: ([.methodLink RX8 3 objectInit, .instanceMethod objectInit, .code objectInit ⟨#[0xb1]⟩ 1 none, .fieldLink RX8 9 "PackThreads$Worker" "number" "I"] ++ wsX80)
def wsX6_init_r1 : List Cond := [Cond.methodLink RX6 3 objectInit, Cond.instanceMethod objectInit, Cond.code objectInit ⟨#[0xb1]⟩ 1 none, Cond.classLink RX6 9 RX8, Cond.fieldLink RX6 11 "PackThreads$Stream" "workers" "[LPackThreads$Worker;", Cond.classLink RX6 17 RX1, Cond.instantiable RX1 3, Cond.initialized RX1, Cond.fieldLink RX6 20 "PackThreads$Stream" "memory" "LPackThreads$Memory;", Cond.classLink RX6 24 RX4, Cond.instantiable RX4 4, Cond.initialized RX4, Cond.fieldLink RX6 27 "PackThreads$Stream" "row" "LPackThreads$Row;", Cond.classLink RX6 31 RX0, Cond.instantiable RX0 3, Cond.initialized RX0, Cond.fieldLink RX6 34 "PackThreads$Stream" "failed" "LPackThreads$Failed;", Cond.fieldLink RX6 38 "PackThreads$Stream" "packs" "LPackThreads$Packs;", Cond.fieldLink RX6 42 "PackThreads$Stream" "plants" "LPackThreads$Plants;", Cond.instantiable RX8 8, Cond.initialized RX8, Cond.instanceMethod yX1_init, Cond.code yX1_init cX1_init 1 none, Cond.methodLink RX1 3 objectInit]
def wsX6_init_r2 : List Cond := [Cond.classLink RX1 9 RX8, Cond.fieldLink RX1 11 "PackThreads$Memory" "line" "[LPackThreads$Worker;", Cond.instanceMethod yX4_init, Cond.code yX4_init cX4_init 1 none, Cond.methodLink RX4 3 objectInit, Cond.arrayClass .boolean, Cond.fieldLink RX4 9 "PackThreads$Row" "kept" "[Z", Cond.instanceMethod yX0_init, Cond.code yX0_init cX0_init 1 none, Cond.methodLink RX0 3 objectInit, Cond.fieldLink RX0 9 "PackThreads$Failed" "before" "[Z", Cond.arrayClass .int, Cond.fieldLink RX0 15 "PackThreads$Failed" "line" "[I", Cond.methodLink RX6 46 yX8_init, Cond.instanceMethod yX8_init, Cond.code yX8_init cX8_init 2 none, Cond.methodLink RX8 3 objectInit, Cond.fieldLink RX8 9 "PackThreads$Worker" "number" "I"]
def wsX6_init : List Cond := .code yX6_init cX6_init 4 none :: ((wsX6_init_r1 ++ wsX6_init_r2) ++ wsX60 ++ wsX10 ++ wsX40 ++ wsX00 ++ wsX80)
def wsX8_becomeFree : List Cond := .code yX8_becomeFree cX8_becomeFree 1 none :: ([.fieldLink RX8 28 "PackThreads$Worker" "state" "I", .fieldLink RX8 31 "PackThreads$Worker" "block" "I", .fieldLink RX8 34 "PackThreads$Worker" "step" "I", .fieldLink RX8 37 "PackThreads$Worker" "cells" "I"] ++ wsX80)
def wsX8_renew : List Cond := .code yX8_renew cX8_renew 1 none :: ([.fieldLink RX8 18 "PackThreads$Worker" "made" "I", .fieldLink RX8 21 "PackThreads$Worker" "timesEnded" "I", .fieldLink RX8 24 "PackThreads$Worker" "interrupted" "Z", .methodLink RX8 15 yX8_becomeFree, .instanceMethod yX8_becomeFree, .selects RX8 yX8_becomeFree yX8_becomeFree, .initialized RX8, .code yX8_becomeFree cX8_becomeFree 1 none, .fieldLink RX8 28 "PackThreads$Worker" "state" "I", .fieldLink RX8 31 "PackThreads$Worker" "block" "I", .fieldLink RX8 34 "PackThreads$Worker" "step" "I", .fieldLink RX8 37 "PackThreads$Worker" "cells" "I"] ++ wsX80)
def wsX6_start_r1 : List Cond := [Cond.fieldLink RX6 49 "PackThreads$Stream" "threads" "I", Cond.fieldLink RX6 11 "PackThreads$Stream" "workers" "[LPackThreads$Worker;", Cond.fieldLink RX6 20 "PackThreads$Stream" "memory" "LPackThreads$Memory;", Cond.fieldLink RX6 27 "PackThreads$Stream" "row" "LPackThreads$Row;", Cond.fieldLink RX6 34 "PackThreads$Stream" "failed" "LPackThreads$Failed;", Cond.fieldLink RX6 62 "PackThreads$Stream" "latest" "I", Cond.fieldLink RX6 65 "PackThreads$Stream" "nextBlock" "I", Cond.fieldLink RX6 68 "PackThreads$Stream" "stoppedAt" "I", Cond.fieldLink RX6 71 "PackThreads$Stream" "stoppedKind" "I", Cond.fieldLink RX6 74 "PackThreads$Stream" "failures" "I", Cond.fieldLink RX6 77 "PackThreads$Stream" "turnsDone" "I", Cond.methodLink RX6 53 yX8_renew, Cond.instanceMethod yX8_renew, Cond.selects RX8 yX8_renew yX8_renew, Cond.initialized RX8, Cond.code yX8_renew cX8_renew 1 none, Cond.fieldLink RX8 18 "PackThreads$Worker" "made" "I", Cond.fieldLink RX8 21 "PackThreads$Worker" "timesEnded" "I", Cond.fieldLink RX8 24 "PackThreads$Worker" "interrupted" "Z", Cond.methodLink RX8 15 yX8_becomeFree, Cond.instanceMethod yX8_becomeFree, Cond.selects RX8 yX8_becomeFree yX8_becomeFree, Cond.code yX8_becomeFree cX8_becomeFree 1 none, Cond.fieldLink RX8 28 "PackThreads$Worker" "state" "I"]
def wsX6_start_r2 : List Cond := [Cond.fieldLink RX8 31 "PackThreads$Worker" "block" "I", Cond.fieldLink RX8 34 "PackThreads$Worker" "step" "I", Cond.fieldLink RX8 37 "PackThreads$Worker" "cells" "I", Cond.methodLink RX6 56 yX1_fill, Cond.instanceMethod yX1_fill, Cond.selects RX1 yX1_fill yX1_fill, Cond.initialized RX1, Cond.code yX1_fill cX1_fill 2 none, Cond.fieldLink RX1 17 "PackThreads$Memory" "left" "I", Cond.fieldLink RX1 21 "PackThreads$Memory" "inLine" "I", Cond.methodLink RX6 59 yX4_renew, Cond.instanceMethod yX4_renew, Cond.selects RX4 yX4_renew yX4_renew, Cond.initialized RX4, Cond.code yX4_renew cX4_renew 3 none, Cond.fieldLink RX4 9 "PackThreads$Row" "kept" "[Z", Cond.fieldLink RX4 15 "PackThreads$Row" "packs" "I", Cond.fieldLink RX4 19 "PackThreads$Row" "limit" "I", Cond.fieldLink RX4 22 "PackThreads$Row" "joined" "I", Cond.methodLink RX6 61 yX0_renew, Cond.instanceMethod yX0_renew, Cond.selects RX0 yX0_renew yX0_renew, Cond.initialized RX0, Cond.code yX0_renew cX0_renew 2 none]
def wsX6_start_r3 : List Cond := [Cond.fieldLink RX0 9 "PackThreads$Failed" "before" "[Z", Cond.fieldLink RX0 19 "PackThreads$Failed" "inLine" "I"]
def wsX6_start : List Cond := .code yX6_start cX6_start 5 none :: ((wsX6_start_r1 ++ (wsX6_start_r2 ++ wsX6_start_r3)) ++ wsX60 ++ wsX80 ++ wsX10 ++ wsX40 ++ wsX00)
def wsX6_threads : List Cond := .code yX6_threads cX6_threads 1 (some .int) :: ([.fieldLink RX6 49 "PackThreads$Stream" "threads" "I"] ++ wsX60)
def wsX6_worker : List Cond := .code yX6_worker cX6_worker 2 (some (.object "PackThreads$Worker")) :: ([.fieldLink RX6 49 "PackThreads$Stream" "threads" "I", .fieldLink RX6 11 "PackThreads$Stream" "workers" "[LPackThreads$Worker;"] ++ wsX60)
def wsX6_allEnded : List Cond := .code yX6_allEnded cX6_allEnded 2 (some .boolean) :: ([.fieldLink RX6 49 "PackThreads$Stream" "threads" "I", .fieldLink RX6 11 "PackThreads$Stream" "workers" "[LPackThreads$Worker;"] ++ wsX60 ++ wsX80)
def wsX6_hasStopped : List Cond := .code yX6_hasStopped cX6_hasStopped 1 (some .boolean) :: ([.fieldLink RX6 68 "PackThreads$Stream" "stoppedAt" "I"] ++ wsX60)
def wsX8_end : List Cond := .code yX8_end cX8_end 1 none :: ([.fieldLink RX8 28 "PackThreads$Worker" "state" "I", .fieldLink RX8 21 "PackThreads$Worker" "timesEnded" "I", .methodLink RX8 15 yX8_becomeFree, .instanceMethod yX8_becomeFree, .selects RX8 yX8_becomeFree yX8_becomeFree, .initialized RX8, .code yX8_becomeFree cX8_becomeFree 1 none, .fieldLink RX8 31 "PackThreads$Worker" "block" "I", .fieldLink RX8 34 "PackThreads$Worker" "step" "I", .fieldLink RX8 37 "PackThreads$Worker" "cells" "I"] ++ wsX80)
def wsX6_isBlockDoneAgain : List Cond := .code yX6_isBlockDoneAgain cX6_isBlockDoneAgain 3 (some .boolean) :: ([.fieldLink RX6 11 "PackThreads$Stream" "workers" "[LPackThreads$Worker;", .fieldLink RX6 34 "PackThreads$Stream" "failed" "LPackThreads$Failed;", .methodLink RX6 158 yX0_has, .instanceMethod yX0_has, .selects RX0 yX0_has yX0_has, .initialized RX0, .code yX0_has cX0_has 2 (some .boolean), .fieldLink RX0 9 "PackThreads$Failed" "before" "[Z"] ++ wsX60 ++ wsX80 ++ wsX00)
def wsX6_isAnyAtWork : List Cond := .code yX6_isAnyAtWork cX6_isAnyAtWork 2 (some .boolean) :: ([.fieldLink RX6 11 "PackThreads$Stream" "workers" "[LPackThreads$Worker;"] ++ wsX60 ++ wsX80)
def wsX8_choose : List Cond := .code yX8_choose cX8_choose 3 none :: ([.fieldLink RX8 31 "PackThreads$Worker" "block" "I", .fieldLink RX8 37 "PackThreads$Worker" "cells" "I"] ++ wsX80)
def wsX6_take_r1 : List Cond := [Cond.fieldLink RX6 38 "PackThreads$Stream" "packs" "LPackThreads$Packs;", Cond.fieldLink RX6 20 "PackThreads$Stream" "memory" "LPackThreads$Memory;", Cond.methodLink RX6 140 yX2_bytesOf, Cond.instanceMethod yX2_bytesOf, Cond.selects RX2 yX2_bytesOf yX2_bytesOf, Cond.initialized RX2, Cond.code yX2_bytesOf cX2_bytesOf 3 (some .int), Cond.fieldLink RX2 25 "PackThreads$Packs" "settings" "LPackThreads$Settings;", Cond.fieldLink RX2 21 "PackThreads$Packs" "text" "LPackThreads$Text;", Cond.methodLink RX2 94 Lib.Math.min.name, Cond.static Lib.Math.min.name, Cond.initialized "java/lang/Math", Cond.code Lib.Math.min.name Lib.Math.min.code 2 (some .int), Cond.methodLink RX2 83 Lib.Math.max.name, Cond.static Lib.Math.max.name, Cond.code Lib.Math.max.name Lib.Math.max.code 2 (some .int), Cond.methodLink RX2 44 yX5_size, Cond.instanceMethod yX5_size, Cond.selects RX5 yX5_size yX5_size, Cond.initialized RX5, Cond.code yX5_size cX5_size 1 (some .int), Cond.fieldLink RX5 7 "PackThreads$Settings" "size" "I", Cond.methodLink RX2 57 yX7_length, Cond.instanceMethod yX7_length]
def wsX6_take_r2 : List Cond := [Cond.selects RX7 yX7_length yX7_length, Cond.initialized RX7, Cond.code yX7_length cX7_length 1 (some .int), Cond.fieldLink RX7 15 "PackThreads$Text" "length" "I", Cond.methodLink RX6 144 yX8_choose, Cond.instanceMethod yX8_choose, Cond.selects RX8 yX8_choose yX8_choose, Cond.initialized RX8, Cond.code yX8_choose cX8_choose 3 none, Cond.fieldLink RX8 31 "PackThreads$Worker" "block" "I", Cond.fieldLink RX8 37 "PackThreads$Worker" "cells" "I", Cond.methodLink RX6 148 yX1_ask, Cond.instanceMethod yX1_ask, Cond.selects RX1 yX1_ask yX1_ask, Cond.initialized RX1, Cond.code yX1_ask cX1_ask 2 none, Cond.fieldLink RX1 21 "PackThreads$Memory" "inLine" "I", Cond.fieldLink RX1 17 "PackThreads$Memory" "left" "I", Cond.fieldLink RX1 11 "PackThreads$Memory" "line" "[LPackThreads$Worker;", Cond.methodLink RX1 27 yX8_startWork, Cond.instanceMethod yX8_startWork, Cond.selects RX8 yX8_startWork yX8_startWork, Cond.code yX8_startWork cX8_startWork 1 none, Cond.fieldLink RX8 28 "PackThreads$Worker" "state" "I"]
def wsX6_take_r3 : List Cond := [Cond.fieldLink RX8 34 "PackThreads$Worker" "step" "I", Cond.methodLink RX1 30 yX8_waitInLine, Cond.instanceMethod yX8_waitInLine, Cond.selects RX8 yX8_waitInLine yX8_waitInLine, Cond.code yX8_waitInLine cX8_waitInLine 1 none]
def wsX6_take : List Cond := .code yX6_take cX6_take 3 none :: ((wsX6_take_r1 ++ (wsX6_take_r2 ++ wsX6_take_r3)) ++ wsX60 ++ wsX20 ++ wsX50 ++ wsX70 ++ wsX80 ++ wsX10)
def wsX6_doFree_r1 : List Cond := [Cond.fieldLink RX6 27 "PackThreads$Stream" "row" "LPackThreads$Row;", Cond.fieldLink RX6 38 "PackThreads$Stream" "packs" "LPackThreads$Packs;", Cond.fieldLink RX6 34 "PackThreads$Stream" "failed" "LPackThreads$Failed;", Cond.fieldLink RX6 65 "PackThreads$Stream" "nextBlock" "I", Cond.methodLink RX6 109 yX6_hasStopped, Cond.instanceMethod yX6_hasStopped, Cond.selects RX6 yX6_hasStopped yX6_hasStopped, Cond.initialized RX6, Cond.code yX6_hasStopped cX6_hasStopped 1 (some .boolean), Cond.fieldLink RX6 68 "PackThreads$Stream" "stoppedAt" "I", Cond.methodLink RX6 115 yX2_blocks, Cond.instanceMethod yX2_blocks, Cond.selects RX2 yX2_blocks yX2_blocks, Cond.initialized RX2, Cond.code yX2_blocks cX2_blocks 1 (some .int), Cond.fieldLink RX2 41 "PackThreads$Packs" "blocks" "I", Cond.methodLink RX6 121 yX8_end, Cond.instanceMethod yX8_end, Cond.selects RX8 yX8_end yX8_end, Cond.initialized RX8, Cond.code yX8_end cX8_end 1 none, Cond.fieldLink RX8 28 "PackThreads$Worker" "state" "I", Cond.fieldLink RX8 21 "PackThreads$Worker" "timesEnded" "I", Cond.methodLink RX8 15 yX8_becomeFree]
def wsX6_doFree_r2 : List Cond := [Cond.instanceMethod yX8_becomeFree, Cond.selects RX8 yX8_becomeFree yX8_becomeFree, Cond.code yX8_becomeFree cX8_becomeFree 1 none, Cond.fieldLink RX8 31 "PackThreads$Worker" "block" "I", Cond.fieldLink RX8 34 "PackThreads$Worker" "step" "I", Cond.fieldLink RX8 37 "PackThreads$Worker" "cells" "I", Cond.methodLink RX6 124 yX6_isBlockDoneAgain, Cond.instanceMethod yX6_isBlockDoneAgain, Cond.selects RX6 yX6_isBlockDoneAgain yX6_isBlockDoneAgain, Cond.code yX6_isBlockDoneAgain cX6_isBlockDoneAgain 3 (some .boolean), Cond.fieldLink RX6 11 "PackThreads$Stream" "workers" "[LPackThreads$Worker;", Cond.methodLink RX6 158 yX0_has, Cond.instanceMethod yX0_has, Cond.selects RX0 yX0_has yX0_has, Cond.initialized RX0, Cond.code yX0_has cX0_has 2 (some .boolean), Cond.fieldLink RX0 9 "PackThreads$Failed" "before" "[Z", Cond.methodLink RX6 130 yX6_isAnyAtWork, Cond.instanceMethod yX6_isAnyAtWork, Cond.selects RX6 yX6_isAnyAtWork yX6_isAnyAtWork, Cond.code yX6_isAnyAtWork cX6_isAnyAtWork 2 (some .boolean), Cond.methodLink RX6 133 yX0_takeFirst, Cond.instanceMethod yX0_takeFirst, Cond.selects RX0 yX0_takeFirst yX0_takeFirst]
def wsX6_doFree_r3 : List Cond := [Cond.code yX0_takeFirst cX0_takeFirst 3 (some .int), Cond.fieldLink RX0 19 "PackThreads$Failed" "inLine" "I", Cond.fieldLink RX0 15 "PackThreads$Failed" "line" "[I", Cond.methodLink RX6 136 yX6_take, Cond.instanceMethod yX6_take, Cond.selects RX6 yX6_take yX6_take, Cond.code yX6_take cX6_take 3 none, Cond.fieldLink RX6 20 "PackThreads$Stream" "memory" "LPackThreads$Memory;", Cond.methodLink RX6 140 yX2_bytesOf, Cond.instanceMethod yX2_bytesOf, Cond.selects RX2 yX2_bytesOf yX2_bytesOf, Cond.code yX2_bytesOf cX2_bytesOf 3 (some .int), Cond.fieldLink RX2 25 "PackThreads$Packs" "settings" "LPackThreads$Settings;", Cond.fieldLink RX2 21 "PackThreads$Packs" "text" "LPackThreads$Text;", Cond.methodLink RX2 94 Lib.Math.min.name, Cond.static Lib.Math.min.name, Cond.initialized "java/lang/Math", Cond.code Lib.Math.min.name Lib.Math.min.code 2 (some .int), Cond.methodLink RX2 83 Lib.Math.max.name, Cond.static Lib.Math.max.name, Cond.code Lib.Math.max.name Lib.Math.max.code 2 (some .int), Cond.methodLink RX2 44 yX5_size, Cond.instanceMethod yX5_size, Cond.selects RX5 yX5_size yX5_size]
def wsX6_doFree_r4 : List Cond := [Cond.initialized RX5, Cond.code yX5_size cX5_size 1 (some .int), Cond.fieldLink RX5 7 "PackThreads$Settings" "size" "I", Cond.methodLink RX2 57 yX7_length, Cond.instanceMethod yX7_length, Cond.selects RX7 yX7_length yX7_length, Cond.initialized RX7, Cond.code yX7_length cX7_length 1 (some .int), Cond.fieldLink RX7 15 "PackThreads$Text" "length" "I", Cond.methodLink RX6 144 yX8_choose, Cond.instanceMethod yX8_choose, Cond.selects RX8 yX8_choose yX8_choose, Cond.code yX8_choose cX8_choose 3 none, Cond.methodLink RX6 148 yX1_ask, Cond.instanceMethod yX1_ask, Cond.selects RX1 yX1_ask yX1_ask, Cond.initialized RX1, Cond.code yX1_ask cX1_ask 2 none, Cond.fieldLink RX1 21 "PackThreads$Memory" "inLine" "I", Cond.fieldLink RX1 17 "PackThreads$Memory" "left" "I", Cond.fieldLink RX1 11 "PackThreads$Memory" "line" "[LPackThreads$Worker;", Cond.methodLink RX1 27 yX8_startWork, Cond.instanceMethod yX8_startWork, Cond.selects RX8 yX8_startWork yX8_startWork]
def wsX6_doFree_r5 : List Cond := [Cond.code yX8_startWork cX8_startWork 1 none, Cond.methodLink RX1 30 yX8_waitInLine, Cond.instanceMethod yX8_waitInLine, Cond.selects RX8 yX8_waitInLine yX8_waitInLine, Cond.code yX8_waitInLine cX8_waitInLine 1 none]
def wsX6_doFree : List Cond := .code yX6_doFree cX6_doFree 2 (some .boolean) :: ((wsX6_doFree_r1 ++ (wsX6_doFree_r2 ++ (wsX6_doFree_r3 ++ (wsX6_doFree_r4 ++ wsX6_doFree_r5)))) ++ wsX80 ++ wsX60 ++ wsX40 ++ wsX00 ++ wsX20 ++ wsX50 ++ wsX70 ++ wsX10)
def wsX6_fail_r1 : List Cond := [Cond.fieldLink RX6 20 "PackThreads$Stream" "memory" "LPackThreads$Memory;", Cond.fieldLink RX6 74 "PackThreads$Stream" "failures" "I", Cond.fieldLink RX6 34 "PackThreads$Stream" "failed" "LPackThreads$Failed;", Cond.fieldLink RX6 68 "PackThreads$Stream" "stoppedAt" "I", Cond.fieldLink RX6 71 "PackThreads$Stream" "stoppedKind" "I", Cond.methodLink RX6 176 yX1_giveBack, Cond.instanceMethod yX1_giveBack, Cond.selects RX1 yX1_giveBack yX1_giveBack, Cond.initialized RX1, Cond.code yX1_giveBack cX1_giveBack 4 none, Cond.fieldLink RX1 17 "PackThreads$Memory" "left" "I", Cond.fieldLink RX1 21 "PackThreads$Memory" "inLine" "I", Cond.fieldLink RX1 11 "PackThreads$Memory" "line" "[LPackThreads$Worker;", Cond.methodLink RX1 33 yX1_dropFirst, Cond.instanceMethod yX1_dropFirst, Cond.selects RX1 yX1_dropFirst yX1_dropFirst, Cond.code yX1_dropFirst cX1_dropFirst 2 none, Cond.methodLink RX1 27 yX8_startWork, Cond.instanceMethod yX8_startWork, Cond.selects RX8 yX8_startWork yX8_startWork, Cond.initialized RX8, Cond.code yX8_startWork cX8_startWork 1 none, Cond.fieldLink RX8 28 "PackThreads$Worker" "state" "I", Cond.fieldLink RX8 34 "PackThreads$Worker" "step" "I"]
def wsX6_fail_r2 : List Cond := [Cond.methodLink RX6 185 yX8_becomeFree, Cond.instanceMethod yX8_becomeFree, Cond.selects RX8 yX8_becomeFree yX8_becomeFree, Cond.code yX8_becomeFree cX8_becomeFree 1 none, Cond.fieldLink RX8 31 "PackThreads$Worker" "block" "I", Cond.fieldLink RX8 37 "PackThreads$Worker" "cells" "I", Cond.methodLink RX6 158 yX0_has, Cond.instanceMethod yX0_has, Cond.selects RX0 yX0_has yX0_has, Cond.initialized RX0, Cond.code yX0_has cX0_has 2 (some .boolean), Cond.fieldLink RX0 9 "PackThreads$Failed" "before" "[Z", Cond.methodLink RX6 188 yX0_add, Cond.instanceMethod yX0_add, Cond.selects RX0 yX0_add yX0_add, Cond.code yX0_add cX0_add 2 none, Cond.fieldLink RX0 19 "PackThreads$Failed" "inLine" "I", Cond.fieldLink RX0 15 "PackThreads$Failed" "line" "[I"]
def wsX6_fail : List Cond := .code yX6_fail cX6_fail 4 none :: ((wsX6_fail_r1 ++ wsX6_fail_r2) ++ wsX80 ++ wsX60 ++ wsX10 ++ wsX00)
def wsX8_holdPack : List Cond := .code yX8_holdPack cX8_holdPack 1 none :: ([.fieldLink RX8 28 "PackThreads$Worker" "state" "I", .fieldLink RX8 34 "PackThreads$Worker" "step" "I", .fieldLink RX8 18 "PackThreads$Worker" "made" "I"] ++ wsX80)
def wsX6_layPack : List Cond := .code yX6_layPack cX6_layPack 2 (some .boolean) :: ([.fieldLink RX6 27 "PackThreads$Stream" "row" "LPackThreads$Row;", .methodLink RX6 191 yX4_lay, .instanceMethod yX4_lay, .selects RX4 yX4_lay yX4_lay, .initialized RX4, .code yX4_lay cX4_lay 2 (some .boolean), .fieldLink RX4 9 "PackThreads$Row" "kept" "[Z", .fieldLink RX4 22 "PackThreads$Row" "joined" "I", .fieldLink RX4 15 "PackThreads$Row" "packs" "I", .fieldLink RX4 19 "PackThreads$Row" "limit" "I", .methodLink RX6 185 yX8_becomeFree, .instanceMethod yX8_becomeFree, .selects RX8 yX8_becomeFree yX8_becomeFree, .initialized RX8, .code yX8_becomeFree cX8_becomeFree 1 none, .fieldLink RX8 28 "PackThreads$Worker" "state" "I", .fieldLink RX8 31 "PackThreads$Worker" "block" "I", .fieldLink RX8 34 "PackThreads$Worker" "step" "I", .fieldLink RX8 37 "PackThreads$Worker" "cells" "I"] ++ wsX60 ++ wsX80 ++ wsX40)
def wsX6_doWork_r1 : List Cond := [Cond.fieldLink RX6 42 "PackThreads$Stream" "plants" "LPackThreads$Plants;", Cond.fieldLink RX6 34 "PackThreads$Stream" "failed" "LPackThreads$Failed;", Cond.fieldLink RX6 38 "PackThreads$Stream" "packs" "LPackThreads$Packs;", Cond.fieldLink RX6 20 "PackThreads$Stream" "memory" "LPackThreads$Memory;", Cond.methodLink RX6 158 yX0_has, Cond.instanceMethod yX0_has, Cond.selects RX0 yX0_has yX0_has, Cond.initialized RX0, Cond.code yX0_has cX0_has 2 (some .boolean), Cond.fieldLink RX0 9 "PackThreads$Failed" "before" "[Z", Cond.methodLink RX6 161 yX3_kindAt, Cond.instanceMethod yX3_kindAt, Cond.selects RX3 yX3_kindAt yX3_kindAt, Cond.initialized RX3, Cond.code yX3_kindAt cX3_kindAt 4 (some .int), Cond.fieldLink RX3 9 "PackThreads$Plants" "steps" "[I", Cond.fieldLink RX3 18 "PackThreads$Plants" "forTwice" "[Z", Cond.fieldLink RX3 15 "PackThreads$Plants" "kinds" "[I", Cond.methodLink RX6 167 yX6_fail, Cond.instanceMethod yX6_fail, Cond.selects RX6 yX6_fail yX6_fail, Cond.initialized RX6, Cond.code yX6_fail cX6_fail 4 none, Cond.fieldLink RX6 74 "PackThreads$Stream" "failures" "I"]
def wsX6_doWork_r2 : List Cond := [Cond.fieldLink RX6 68 "PackThreads$Stream" "stoppedAt" "I", Cond.fieldLink RX6 71 "PackThreads$Stream" "stoppedKind" "I", Cond.methodLink RX6 176 yX1_giveBack, Cond.instanceMethod yX1_giveBack, Cond.selects RX1 yX1_giveBack yX1_giveBack, Cond.initialized RX1, Cond.code yX1_giveBack cX1_giveBack 4 none, Cond.fieldLink RX1 17 "PackThreads$Memory" "left" "I", Cond.fieldLink RX1 21 "PackThreads$Memory" "inLine" "I", Cond.fieldLink RX1 11 "PackThreads$Memory" "line" "[LPackThreads$Worker;", Cond.methodLink RX1 33 yX1_dropFirst, Cond.instanceMethod yX1_dropFirst, Cond.selects RX1 yX1_dropFirst yX1_dropFirst, Cond.code yX1_dropFirst cX1_dropFirst 2 none, Cond.methodLink RX1 27 yX8_startWork, Cond.instanceMethod yX8_startWork, Cond.selects RX8 yX8_startWork yX8_startWork, Cond.initialized RX8, Cond.code yX8_startWork cX8_startWork 1 none, Cond.fieldLink RX8 28 "PackThreads$Worker" "state" "I", Cond.fieldLink RX8 34 "PackThreads$Worker" "step" "I", Cond.methodLink RX6 185 yX8_becomeFree, Cond.instanceMethod yX8_becomeFree, Cond.selects RX8 yX8_becomeFree yX8_becomeFree]
def wsX6_doWork_r3 : List Cond := [Cond.code yX8_becomeFree cX8_becomeFree 1 none, Cond.fieldLink RX8 31 "PackThreads$Worker" "block" "I", Cond.fieldLink RX8 37 "PackThreads$Worker" "cells" "I", Cond.methodLink RX6 188 yX0_add, Cond.instanceMethod yX0_add, Cond.selects RX0 yX0_add yX0_add, Cond.code yX0_add cX0_add 2 none, Cond.fieldLink RX0 19 "PackThreads$Failed" "inLine" "I", Cond.fieldLink RX0 15 "PackThreads$Failed" "line" "[I", Cond.methodLink RX6 170 yX2_tokensOf, Cond.instanceMethod yX2_tokensOf, Cond.selects RX2 yX2_tokensOf yX2_tokensOf, Cond.initialized RX2, Cond.code yX2_tokensOf cX2_tokensOf 2 (some .int), Cond.fieldLink RX2 18 "PackThreads$Packs" "tokens" "[I", Cond.methodLink RX6 179 yX8_holdPack, Cond.instanceMethod yX8_holdPack, Cond.selects RX8 yX8_holdPack yX8_holdPack, Cond.code yX8_holdPack cX8_holdPack 1 none, Cond.fieldLink RX8 18 "PackThreads$Worker" "made" "I", Cond.methodLink RX6 182 yX6_layPack, Cond.instanceMethod yX6_layPack, Cond.selects RX6 yX6_layPack yX6_layPack, Cond.code yX6_layPack cX6_layPack 2 (some .boolean)]
def wsX6_doWork_r4 : List Cond := [Cond.fieldLink RX6 27 "PackThreads$Stream" "row" "LPackThreads$Row;", Cond.methodLink RX6 191 yX4_lay, Cond.instanceMethod yX4_lay, Cond.selects RX4 yX4_lay yX4_lay, Cond.initialized RX4, Cond.code yX4_lay cX4_lay 2 (some .boolean), Cond.fieldLink RX4 9 "PackThreads$Row" "kept" "[Z", Cond.fieldLink RX4 22 "PackThreads$Row" "joined" "I", Cond.fieldLink RX4 15 "PackThreads$Row" "packs" "I", Cond.fieldLink RX4 19 "PackThreads$Row" "limit" "I"]
def wsX6_doWork : List Cond := .code yX6_doWork cX6_doWork 4 (some .boolean) :: ((wsX6_doWork_r1 ++ (wsX6_doWork_r2 ++ (wsX6_doWork_r3 ++ wsX6_doWork_r4))) ++ wsX80 ++ wsX60 ++ wsX00 ++ wsX30 ++ wsX10 ++ wsX20 ++ wsX40)
def wsX6_doHolding_r1 : List Cond := [Cond.methodLink RX6 109 yX6_hasStopped, Cond.instanceMethod yX6_hasStopped, Cond.selects RX6 yX6_hasStopped yX6_hasStopped, Cond.initialized RX6, Cond.code yX6_hasStopped cX6_hasStopped 1 (some .boolean), Cond.fieldLink RX6 68 "PackThreads$Stream" "stoppedAt" "I", Cond.methodLink RX6 121 yX8_end, Cond.instanceMethod yX8_end, Cond.selects RX8 yX8_end yX8_end, Cond.initialized RX8, Cond.code yX8_end cX8_end 1 none, Cond.fieldLink RX8 28 "PackThreads$Worker" "state" "I", Cond.fieldLink RX8 21 "PackThreads$Worker" "timesEnded" "I", Cond.methodLink RX8 15 yX8_becomeFree, Cond.instanceMethod yX8_becomeFree, Cond.selects RX8 yX8_becomeFree yX8_becomeFree, Cond.code yX8_becomeFree cX8_becomeFree 1 none, Cond.fieldLink RX8 31 "PackThreads$Worker" "block" "I", Cond.fieldLink RX8 34 "PackThreads$Worker" "step" "I", Cond.fieldLink RX8 37 "PackThreads$Worker" "cells" "I", Cond.methodLink RX6 182 yX6_layPack, Cond.instanceMethod yX6_layPack, Cond.selects RX6 yX6_layPack yX6_layPack, Cond.code yX6_layPack cX6_layPack 2 (some .boolean)]
def wsX6_doHolding_r2 : List Cond := [Cond.fieldLink RX6 27 "PackThreads$Stream" "row" "LPackThreads$Row;", Cond.methodLink RX6 191 yX4_lay, Cond.instanceMethod yX4_lay, Cond.selects RX4 yX4_lay yX4_lay, Cond.initialized RX4, Cond.code yX4_lay cX4_lay 2 (some .boolean), Cond.fieldLink RX4 9 "PackThreads$Row" "kept" "[Z", Cond.fieldLink RX4 22 "PackThreads$Row" "joined" "I", Cond.fieldLink RX4 15 "PackThreads$Row" "packs" "I", Cond.fieldLink RX4 19 "PackThreads$Row" "limit" "I", Cond.methodLink RX6 185 yX8_becomeFree]
def wsX6_doHolding : List Cond := .code yX6_doHolding cX6_doHolding 2 (some .boolean) :: ((wsX6_doHolding_r1 ++ wsX6_doHolding_r2) ++ wsX60 ++ wsX80 ++ wsX40)
def wsX6_giveTurn_r1 : List Cond := [Cond.fieldLink RX6 62 "PackThreads$Stream" "latest" "I", Cond.fieldLink RX6 77 "PackThreads$Stream" "turnsDone" "I", Cond.methodLink RX6 88 yX6_worker, Cond.instanceMethod yX6_worker, Cond.selects RX6 yX6_worker yX6_worker, Cond.initialized RX6, Cond.code yX6_worker cX6_worker 2 (some (.object "PackThreads$Worker")), Cond.fieldLink RX6 49 "PackThreads$Stream" "threads" "I", Cond.fieldLink RX6 11 "PackThreads$Stream" "workers" "[LPackThreads$Worker;", Cond.methodLink RX6 95 yX6_doFree, Cond.instanceMethod yX6_doFree, Cond.selects RX6 yX6_doFree yX6_doFree, Cond.code yX6_doFree cX6_doFree 2 (some .boolean), Cond.fieldLink RX6 27 "PackThreads$Stream" "row" "LPackThreads$Row;", Cond.fieldLink RX6 38 "PackThreads$Stream" "packs" "LPackThreads$Packs;", Cond.fieldLink RX6 34 "PackThreads$Stream" "failed" "LPackThreads$Failed;", Cond.fieldLink RX6 65 "PackThreads$Stream" "nextBlock" "I", Cond.methodLink RX6 109 yX6_hasStopped, Cond.instanceMethod yX6_hasStopped, Cond.selects RX6 yX6_hasStopped yX6_hasStopped, Cond.code yX6_hasStopped cX6_hasStopped 1 (some .boolean), Cond.fieldLink RX6 68 "PackThreads$Stream" "stoppedAt" "I", Cond.methodLink RX6 115 yX2_blocks, Cond.instanceMethod yX2_blocks]
def wsX6_giveTurn_r2 : List Cond := [Cond.selects RX2 yX2_blocks yX2_blocks, Cond.initialized RX2, Cond.code yX2_blocks cX2_blocks 1 (some .int), Cond.fieldLink RX2 41 "PackThreads$Packs" "blocks" "I", Cond.methodLink RX6 121 yX8_end, Cond.instanceMethod yX8_end, Cond.selects RX8 yX8_end yX8_end, Cond.initialized RX8, Cond.code yX8_end cX8_end 1 none, Cond.fieldLink RX8 28 "PackThreads$Worker" "state" "I", Cond.fieldLink RX8 21 "PackThreads$Worker" "timesEnded" "I", Cond.methodLink RX8 15 yX8_becomeFree, Cond.instanceMethod yX8_becomeFree, Cond.selects RX8 yX8_becomeFree yX8_becomeFree, Cond.code yX8_becomeFree cX8_becomeFree 1 none, Cond.fieldLink RX8 31 "PackThreads$Worker" "block" "I", Cond.fieldLink RX8 34 "PackThreads$Worker" "step" "I", Cond.fieldLink RX8 37 "PackThreads$Worker" "cells" "I", Cond.methodLink RX6 124 yX6_isBlockDoneAgain, Cond.instanceMethod yX6_isBlockDoneAgain, Cond.selects RX6 yX6_isBlockDoneAgain yX6_isBlockDoneAgain, Cond.code yX6_isBlockDoneAgain cX6_isBlockDoneAgain 3 (some .boolean), Cond.methodLink RX6 158 yX0_has, Cond.instanceMethod yX0_has]
def wsX6_giveTurn_r3 : List Cond := [Cond.selects RX0 yX0_has yX0_has, Cond.initialized RX0, Cond.code yX0_has cX0_has 2 (some .boolean), Cond.fieldLink RX0 9 "PackThreads$Failed" "before" "[Z", Cond.methodLink RX6 130 yX6_isAnyAtWork, Cond.instanceMethod yX6_isAnyAtWork, Cond.selects RX6 yX6_isAnyAtWork yX6_isAnyAtWork, Cond.code yX6_isAnyAtWork cX6_isAnyAtWork 2 (some .boolean), Cond.methodLink RX6 133 yX0_takeFirst, Cond.instanceMethod yX0_takeFirst, Cond.selects RX0 yX0_takeFirst yX0_takeFirst, Cond.code yX0_takeFirst cX0_takeFirst 3 (some .int), Cond.fieldLink RX0 19 "PackThreads$Failed" "inLine" "I", Cond.fieldLink RX0 15 "PackThreads$Failed" "line" "[I", Cond.methodLink RX6 136 yX6_take, Cond.instanceMethod yX6_take, Cond.selects RX6 yX6_take yX6_take, Cond.code yX6_take cX6_take 3 none, Cond.fieldLink RX6 20 "PackThreads$Stream" "memory" "LPackThreads$Memory;", Cond.methodLink RX6 140 yX2_bytesOf, Cond.instanceMethod yX2_bytesOf, Cond.selects RX2 yX2_bytesOf yX2_bytesOf, Cond.code yX2_bytesOf cX2_bytesOf 3 (some .int), Cond.fieldLink RX2 25 "PackThreads$Packs" "settings" "LPackThreads$Settings;"]
def wsX6_giveTurn_r4 : List Cond := [Cond.fieldLink RX2 21 "PackThreads$Packs" "text" "LPackThreads$Text;", Cond.methodLink RX2 94 Lib.Math.min.name, Cond.static Lib.Math.min.name, Cond.initialized "java/lang/Math", Cond.code Lib.Math.min.name Lib.Math.min.code 2 (some .int), Cond.methodLink RX2 83 Lib.Math.max.name, Cond.static Lib.Math.max.name, Cond.code Lib.Math.max.name Lib.Math.max.code 2 (some .int), Cond.methodLink RX2 44 yX5_size, Cond.instanceMethod yX5_size, Cond.selects RX5 yX5_size yX5_size, Cond.initialized RX5, Cond.code yX5_size cX5_size 1 (some .int), Cond.fieldLink RX5 7 "PackThreads$Settings" "size" "I", Cond.methodLink RX2 57 yX7_length, Cond.instanceMethod yX7_length, Cond.selects RX7 yX7_length yX7_length, Cond.initialized RX7, Cond.code yX7_length cX7_length 1 (some .int), Cond.fieldLink RX7 15 "PackThreads$Text" "length" "I", Cond.methodLink RX6 144 yX8_choose, Cond.instanceMethod yX8_choose, Cond.selects RX8 yX8_choose yX8_choose, Cond.code yX8_choose cX8_choose 3 none]
def wsX6_giveTurn_r5 : List Cond := [Cond.methodLink RX6 148 yX1_ask, Cond.instanceMethod yX1_ask, Cond.selects RX1 yX1_ask yX1_ask, Cond.initialized RX1, Cond.code yX1_ask cX1_ask 2 none, Cond.fieldLink RX1 21 "PackThreads$Memory" "inLine" "I", Cond.fieldLink RX1 17 "PackThreads$Memory" "left" "I", Cond.fieldLink RX1 11 "PackThreads$Memory" "line" "[LPackThreads$Worker;", Cond.methodLink RX1 27 yX8_startWork, Cond.instanceMethod yX8_startWork, Cond.selects RX8 yX8_startWork yX8_startWork, Cond.code yX8_startWork cX8_startWork 1 none, Cond.methodLink RX1 30 yX8_waitInLine, Cond.instanceMethod yX8_waitInLine, Cond.selects RX8 yX8_waitInLine yX8_waitInLine, Cond.code yX8_waitInLine cX8_waitInLine 1 none, Cond.methodLink RX6 99 yX6_doWork, Cond.instanceMethod yX6_doWork, Cond.selects RX6 yX6_doWork yX6_doWork, Cond.code yX6_doWork cX6_doWork 4 (some .boolean), Cond.fieldLink RX6 42 "PackThreads$Stream" "plants" "LPackThreads$Plants;", Cond.methodLink RX6 161 yX3_kindAt, Cond.instanceMethod yX3_kindAt, Cond.selects RX3 yX3_kindAt yX3_kindAt]
def wsX6_giveTurn_r6 : List Cond := [Cond.initialized RX3, Cond.code yX3_kindAt cX3_kindAt 4 (some .int), Cond.fieldLink RX3 9 "PackThreads$Plants" "steps" "[I", Cond.fieldLink RX3 18 "PackThreads$Plants" "forTwice" "[Z", Cond.fieldLink RX3 15 "PackThreads$Plants" "kinds" "[I", Cond.methodLink RX6 167 yX6_fail, Cond.instanceMethod yX6_fail, Cond.selects RX6 yX6_fail yX6_fail, Cond.code yX6_fail cX6_fail 4 none, Cond.fieldLink RX6 74 "PackThreads$Stream" "failures" "I", Cond.fieldLink RX6 71 "PackThreads$Stream" "stoppedKind" "I", Cond.methodLink RX6 176 yX1_giveBack, Cond.instanceMethod yX1_giveBack, Cond.selects RX1 yX1_giveBack yX1_giveBack, Cond.code yX1_giveBack cX1_giveBack 4 none, Cond.methodLink RX1 33 yX1_dropFirst, Cond.instanceMethod yX1_dropFirst, Cond.selects RX1 yX1_dropFirst yX1_dropFirst, Cond.code yX1_dropFirst cX1_dropFirst 2 none, Cond.methodLink RX6 185 yX8_becomeFree, Cond.methodLink RX6 188 yX0_add, Cond.instanceMethod yX0_add, Cond.selects RX0 yX0_add yX0_add, Cond.code yX0_add cX0_add 2 none]
def wsX6_giveTurn_r7 : List Cond := [Cond.methodLink RX6 170 yX2_tokensOf, Cond.instanceMethod yX2_tokensOf, Cond.selects RX2 yX2_tokensOf yX2_tokensOf, Cond.code yX2_tokensOf cX2_tokensOf 2 (some .int), Cond.fieldLink RX2 18 "PackThreads$Packs" "tokens" "[I", Cond.methodLink RX6 179 yX8_holdPack, Cond.instanceMethod yX8_holdPack, Cond.selects RX8 yX8_holdPack yX8_holdPack, Cond.code yX8_holdPack cX8_holdPack 1 none, Cond.fieldLink RX8 18 "PackThreads$Worker" "made" "I", Cond.methodLink RX6 182 yX6_layPack, Cond.instanceMethod yX6_layPack, Cond.selects RX6 yX6_layPack yX6_layPack, Cond.code yX6_layPack cX6_layPack 2 (some .boolean), Cond.methodLink RX6 191 yX4_lay, Cond.instanceMethod yX4_lay, Cond.selects RX4 yX4_lay yX4_lay, Cond.initialized RX4, Cond.code yX4_lay cX4_lay 2 (some .boolean), Cond.fieldLink RX4 9 "PackThreads$Row" "kept" "[Z", Cond.fieldLink RX4 22 "PackThreads$Row" "joined" "I", Cond.fieldLink RX4 15 "PackThreads$Row" "packs" "I", Cond.fieldLink RX4 19 "PackThreads$Row" "limit" "I", Cond.methodLink RX6 102 yX6_doHolding]
def wsX6_giveTurn_r8 : List Cond := [Cond.instanceMethod yX6_doHolding, Cond.selects RX6 yX6_doHolding yX6_doHolding, Cond.code yX6_doHolding cX6_doHolding 2 (some .boolean)]
def wsX6_giveTurn : List Cond := .code yX6_giveTurn cX6_giveTurn 4 (some .boolean) :: ((wsX6_giveTurn_r1 ++ (wsX6_giveTurn_r2 ++ (wsX6_giveTurn_r3 ++ (wsX6_giveTurn_r4 ++ (wsX6_giveTurn_r5 ++ (wsX6_giveTurn_r6 ++ (wsX6_giveTurn_r7 ++ wsX6_giveTurn_r8))))))) ++ wsX60 ++ wsX80 ++ wsX40 ++ wsX00 ++ wsX20 ++ wsX50 ++ wsX70 ++ wsX10 ++ wsX30)
def wsX6_giveTurnsInRing_r1 : List Cond := [Cond.fieldLink RX6 62 "PackThreads$Stream" "latest" "I", Cond.fieldLink RX6 49 "PackThreads$Stream" "threads" "I", Cond.methodLink RX6 80 yX6_allEnded, Cond.instanceMethod yX6_allEnded, Cond.selects RX6 yX6_allEnded yX6_allEnded, Cond.initialized RX6, Cond.code yX6_allEnded cX6_allEnded 2 (some .boolean), Cond.fieldLink RX6 11 "PackThreads$Stream" "workers" "[LPackThreads$Worker;", Cond.methodLink RX6 84 yX6_giveTurn, Cond.instanceMethod yX6_giveTurn, Cond.selects RX6 yX6_giveTurn yX6_giveTurn, Cond.code yX6_giveTurn cX6_giveTurn 4 (some .boolean), Cond.fieldLink RX6 77 "PackThreads$Stream" "turnsDone" "I", Cond.methodLink RX6 88 yX6_worker, Cond.instanceMethod yX6_worker, Cond.selects RX6 yX6_worker yX6_worker, Cond.code yX6_worker cX6_worker 2 (some (.object "PackThreads$Worker")), Cond.methodLink RX6 95 yX6_doFree, Cond.instanceMethod yX6_doFree, Cond.selects RX6 yX6_doFree yX6_doFree, Cond.code yX6_doFree cX6_doFree 2 (some .boolean), Cond.fieldLink RX6 27 "PackThreads$Stream" "row" "LPackThreads$Row;", Cond.fieldLink RX6 38 "PackThreads$Stream" "packs" "LPackThreads$Packs;", Cond.fieldLink RX6 34 "PackThreads$Stream" "failed" "LPackThreads$Failed;"]
def wsX6_giveTurnsInRing_r2 : List Cond := [Cond.fieldLink RX6 65 "PackThreads$Stream" "nextBlock" "I", Cond.methodLink RX6 109 yX6_hasStopped, Cond.instanceMethod yX6_hasStopped, Cond.selects RX6 yX6_hasStopped yX6_hasStopped, Cond.code yX6_hasStopped cX6_hasStopped 1 (some .boolean), Cond.fieldLink RX6 68 "PackThreads$Stream" "stoppedAt" "I", Cond.methodLink RX6 115 yX2_blocks, Cond.instanceMethod yX2_blocks, Cond.selects RX2 yX2_blocks yX2_blocks, Cond.initialized RX2, Cond.code yX2_blocks cX2_blocks 1 (some .int), Cond.fieldLink RX2 41 "PackThreads$Packs" "blocks" "I", Cond.methodLink RX6 121 yX8_end, Cond.instanceMethod yX8_end, Cond.selects RX8 yX8_end yX8_end, Cond.initialized RX8, Cond.code yX8_end cX8_end 1 none, Cond.fieldLink RX8 28 "PackThreads$Worker" "state" "I", Cond.fieldLink RX8 21 "PackThreads$Worker" "timesEnded" "I", Cond.methodLink RX8 15 yX8_becomeFree, Cond.instanceMethod yX8_becomeFree, Cond.selects RX8 yX8_becomeFree yX8_becomeFree, Cond.code yX8_becomeFree cX8_becomeFree 1 none, Cond.fieldLink RX8 31 "PackThreads$Worker" "block" "I"]
def wsX6_giveTurnsInRing_r3 : List Cond := [Cond.fieldLink RX8 34 "PackThreads$Worker" "step" "I", Cond.fieldLink RX8 37 "PackThreads$Worker" "cells" "I", Cond.methodLink RX6 124 yX6_isBlockDoneAgain, Cond.instanceMethod yX6_isBlockDoneAgain, Cond.selects RX6 yX6_isBlockDoneAgain yX6_isBlockDoneAgain, Cond.code yX6_isBlockDoneAgain cX6_isBlockDoneAgain 3 (some .boolean), Cond.methodLink RX6 158 yX0_has, Cond.instanceMethod yX0_has, Cond.selects RX0 yX0_has yX0_has, Cond.initialized RX0, Cond.code yX0_has cX0_has 2 (some .boolean), Cond.fieldLink RX0 9 "PackThreads$Failed" "before" "[Z", Cond.methodLink RX6 130 yX6_isAnyAtWork, Cond.instanceMethod yX6_isAnyAtWork, Cond.selects RX6 yX6_isAnyAtWork yX6_isAnyAtWork, Cond.code yX6_isAnyAtWork cX6_isAnyAtWork 2 (some .boolean), Cond.methodLink RX6 133 yX0_takeFirst, Cond.instanceMethod yX0_takeFirst, Cond.selects RX0 yX0_takeFirst yX0_takeFirst, Cond.code yX0_takeFirst cX0_takeFirst 3 (some .int), Cond.fieldLink RX0 19 "PackThreads$Failed" "inLine" "I", Cond.fieldLink RX0 15 "PackThreads$Failed" "line" "[I", Cond.methodLink RX6 136 yX6_take, Cond.instanceMethod yX6_take]
def wsX6_giveTurnsInRing_r4 : List Cond := [Cond.selects RX6 yX6_take yX6_take, Cond.code yX6_take cX6_take 3 none, Cond.fieldLink RX6 20 "PackThreads$Stream" "memory" "LPackThreads$Memory;", Cond.methodLink RX6 140 yX2_bytesOf, Cond.instanceMethod yX2_bytesOf, Cond.selects RX2 yX2_bytesOf yX2_bytesOf, Cond.code yX2_bytesOf cX2_bytesOf 3 (some .int), Cond.fieldLink RX2 25 "PackThreads$Packs" "settings" "LPackThreads$Settings;", Cond.fieldLink RX2 21 "PackThreads$Packs" "text" "LPackThreads$Text;", Cond.methodLink RX2 94 Lib.Math.min.name, Cond.static Lib.Math.min.name, Cond.initialized "java/lang/Math", Cond.code Lib.Math.min.name Lib.Math.min.code 2 (some .int), Cond.methodLink RX2 83 Lib.Math.max.name, Cond.static Lib.Math.max.name, Cond.code Lib.Math.max.name Lib.Math.max.code 2 (some .int), Cond.methodLink RX2 44 yX5_size, Cond.instanceMethod yX5_size, Cond.selects RX5 yX5_size yX5_size, Cond.initialized RX5, Cond.code yX5_size cX5_size 1 (some .int), Cond.fieldLink RX5 7 "PackThreads$Settings" "size" "I", Cond.methodLink RX2 57 yX7_length, Cond.instanceMethod yX7_length]
def wsX6_giveTurnsInRing_r5 : List Cond := [Cond.selects RX7 yX7_length yX7_length, Cond.initialized RX7, Cond.code yX7_length cX7_length 1 (some .int), Cond.fieldLink RX7 15 "PackThreads$Text" "length" "I", Cond.methodLink RX6 144 yX8_choose, Cond.instanceMethod yX8_choose, Cond.selects RX8 yX8_choose yX8_choose, Cond.code yX8_choose cX8_choose 3 none, Cond.methodLink RX6 148 yX1_ask, Cond.instanceMethod yX1_ask, Cond.selects RX1 yX1_ask yX1_ask, Cond.initialized RX1, Cond.code yX1_ask cX1_ask 2 none, Cond.fieldLink RX1 21 "PackThreads$Memory" "inLine" "I", Cond.fieldLink RX1 17 "PackThreads$Memory" "left" "I", Cond.fieldLink RX1 11 "PackThreads$Memory" "line" "[LPackThreads$Worker;", Cond.methodLink RX1 27 yX8_startWork, Cond.instanceMethod yX8_startWork, Cond.selects RX8 yX8_startWork yX8_startWork, Cond.code yX8_startWork cX8_startWork 1 none, Cond.methodLink RX1 30 yX8_waitInLine, Cond.instanceMethod yX8_waitInLine, Cond.selects RX8 yX8_waitInLine yX8_waitInLine, Cond.code yX8_waitInLine cX8_waitInLine 1 none]
def wsX6_giveTurnsInRing_r6 : List Cond := [Cond.methodLink RX6 99 yX6_doWork, Cond.instanceMethod yX6_doWork, Cond.selects RX6 yX6_doWork yX6_doWork, Cond.code yX6_doWork cX6_doWork 4 (some .boolean), Cond.fieldLink RX6 42 "PackThreads$Stream" "plants" "LPackThreads$Plants;", Cond.methodLink RX6 161 yX3_kindAt, Cond.instanceMethod yX3_kindAt, Cond.selects RX3 yX3_kindAt yX3_kindAt, Cond.initialized RX3, Cond.code yX3_kindAt cX3_kindAt 4 (some .int), Cond.fieldLink RX3 9 "PackThreads$Plants" "steps" "[I", Cond.fieldLink RX3 18 "PackThreads$Plants" "forTwice" "[Z", Cond.fieldLink RX3 15 "PackThreads$Plants" "kinds" "[I", Cond.methodLink RX6 167 yX6_fail, Cond.instanceMethod yX6_fail, Cond.selects RX6 yX6_fail yX6_fail, Cond.code yX6_fail cX6_fail 4 none, Cond.fieldLink RX6 74 "PackThreads$Stream" "failures" "I", Cond.fieldLink RX6 71 "PackThreads$Stream" "stoppedKind" "I", Cond.methodLink RX6 176 yX1_giveBack, Cond.instanceMethod yX1_giveBack, Cond.selects RX1 yX1_giveBack yX1_giveBack, Cond.code yX1_giveBack cX1_giveBack 4 none, Cond.methodLink RX1 33 yX1_dropFirst]
def wsX6_giveTurnsInRing_r7 : List Cond := [Cond.instanceMethod yX1_dropFirst, Cond.selects RX1 yX1_dropFirst yX1_dropFirst, Cond.code yX1_dropFirst cX1_dropFirst 2 none, Cond.methodLink RX6 185 yX8_becomeFree, Cond.methodLink RX6 188 yX0_add, Cond.instanceMethod yX0_add, Cond.selects RX0 yX0_add yX0_add, Cond.code yX0_add cX0_add 2 none, Cond.methodLink RX6 170 yX2_tokensOf, Cond.instanceMethod yX2_tokensOf, Cond.selects RX2 yX2_tokensOf yX2_tokensOf, Cond.code yX2_tokensOf cX2_tokensOf 2 (some .int), Cond.fieldLink RX2 18 "PackThreads$Packs" "tokens" "[I", Cond.methodLink RX6 179 yX8_holdPack, Cond.instanceMethod yX8_holdPack, Cond.selects RX8 yX8_holdPack yX8_holdPack, Cond.code yX8_holdPack cX8_holdPack 1 none, Cond.fieldLink RX8 18 "PackThreads$Worker" "made" "I", Cond.methodLink RX6 182 yX6_layPack, Cond.instanceMethod yX6_layPack, Cond.selects RX6 yX6_layPack yX6_layPack, Cond.code yX6_layPack cX6_layPack 2 (some .boolean), Cond.methodLink RX6 191 yX4_lay, Cond.instanceMethod yX4_lay]
def wsX6_giveTurnsInRing_r8 : List Cond := [Cond.selects RX4 yX4_lay yX4_lay, Cond.initialized RX4, Cond.code yX4_lay cX4_lay 2 (some .boolean), Cond.fieldLink RX4 9 "PackThreads$Row" "kept" "[Z", Cond.fieldLink RX4 22 "PackThreads$Row" "joined" "I", Cond.fieldLink RX4 15 "PackThreads$Row" "packs" "I", Cond.fieldLink RX4 19 "PackThreads$Row" "limit" "I", Cond.methodLink RX6 102 yX6_doHolding, Cond.instanceMethod yX6_doHolding, Cond.selects RX6 yX6_doHolding yX6_doHolding, Cond.code yX6_doHolding cX6_doHolding 2 (some .boolean)]
def wsX6_giveTurnsInRing : List Cond := .code yX6_giveTurnsInRing cX6_giveTurnsInRing 5 (some .int) :: ((wsX6_giveTurnsInRing_r1 ++ (wsX6_giveTurnsInRing_r2 ++ (wsX6_giveTurnsInRing_r3 ++ (wsX6_giveTurnsInRing_r4 ++ (wsX6_giveTurnsInRing_r5 ++ (wsX6_giveTurnsInRing_r6 ++ (wsX6_giveTurnsInRing_r7 ++ wsX6_giveTurnsInRing_r8))))))) ++ wsX60 ++ wsX80 ++ wsX40 ++ wsX00 ++ wsX20 ++ wsX50 ++ wsX70 ++ wsX10 ++ wsX30)
def wsX6_markInterrupted : List Cond := .code yX6_markInterrupted cX6_markInterrupted 3 (some .boolean) :: ([.methodLink RX6 88 yX6_worker, .instanceMethod yX6_worker, .selects RX6 yX6_worker yX6_worker, .initialized RX6, .code yX6_worker cX6_worker 2 (some (.object "PackThreads$Worker")), .fieldLink RX6 49 "PackThreads$Stream" "threads" "I", .fieldLink RX6 11 "PackThreads$Stream" "workers" "[LPackThreads$Worker;"] ++ wsX80 ++ wsX60)
def wsX6_endAll_r1 : List Cond := [Cond.fieldLink RX6 20 "PackThreads$Stream" "memory" "LPackThreads$Memory;", Cond.fieldLink RX6 49 "PackThreads$Stream" "threads" "I", Cond.fieldLink RX6 11 "PackThreads$Stream" "workers" "[LPackThreads$Worker;", Cond.methodLink RX6 176 yX1_giveBack, Cond.instanceMethod yX1_giveBack, Cond.selects RX1 yX1_giveBack yX1_giveBack, Cond.initialized RX1, Cond.code yX1_giveBack cX1_giveBack 4 none, Cond.fieldLink RX1 17 "PackThreads$Memory" "left" "I", Cond.fieldLink RX1 21 "PackThreads$Memory" "inLine" "I", Cond.fieldLink RX1 11 "PackThreads$Memory" "line" "[LPackThreads$Worker;", Cond.methodLink RX1 33 yX1_dropFirst, Cond.instanceMethod yX1_dropFirst, Cond.selects RX1 yX1_dropFirst yX1_dropFirst, Cond.code yX1_dropFirst cX1_dropFirst 2 none, Cond.methodLink RX1 27 yX8_startWork, Cond.instanceMethod yX8_startWork, Cond.selects RX8 yX8_startWork yX8_startWork, Cond.initialized RX8, Cond.code yX8_startWork cX8_startWork 1 none, Cond.fieldLink RX8 28 "PackThreads$Worker" "state" "I", Cond.fieldLink RX8 34 "PackThreads$Worker" "step" "I", Cond.methodLink RX6 121 yX8_end, Cond.instanceMethod yX8_end]
def wsX6_endAll_r2 : List Cond := [Cond.selects RX8 yX8_end yX8_end, Cond.code yX8_end cX8_end 1 none, Cond.fieldLink RX8 21 "PackThreads$Worker" "timesEnded" "I", Cond.methodLink RX8 15 yX8_becomeFree, Cond.instanceMethod yX8_becomeFree, Cond.selects RX8 yX8_becomeFree yX8_becomeFree, Cond.code yX8_becomeFree cX8_becomeFree 1 none, Cond.fieldLink RX8 31 "PackThreads$Worker" "block" "I", Cond.fieldLink RX8 37 "PackThreads$Worker" "cells" "I"]
def wsX6_endAll : List Cond := .code yX6_endAll cX6_endAll 4 (some .int) :: ((wsX6_endAll_r1 ++ wsX6_endAll_r2) ++ wsX60 ++ wsX10 ++ wsX80)
def wsX6_joinedBytes : List Cond := .code yX6_joinedBytes cX6_joinedBytes 1 (some .int) :: ([.fieldLink RX6 38 "PackThreads$Stream" "packs" "LPackThreads$Packs;", .fieldLink RX6 27 "PackThreads$Stream" "row" "LPackThreads$Row;", .methodLink RX6 195 yX2_lengthOfFirst, .instanceMethod yX2_lengthOfFirst, .selects RX2 yX2_lengthOfFirst yX2_lengthOfFirst, .initialized RX2, .code yX2_lengthOfFirst cX2_lengthOfFirst 2 (some .int), .fieldLink RX2 15 "PackThreads$Packs" "ends" "[I"] ++ wsX60 ++ wsX40 ++ wsX20)
def wsX6_numberInLine : List Cond := .code yX6_numberInLine cX6_numberInLine 2 (some .int) :: ([.fieldLink RX6 20 "PackThreads$Stream" "memory" "LPackThreads$Memory;", .methodLink RX6 198 yX1_numberAt, .instanceMethod yX1_numberAt, .selects RX1 yX1_numberAt yX1_numberAt, .initialized RX1, .code yX1_numberAt cX1_numberAt 3 (some .int), .fieldLink RX1 21 "PackThreads$Memory" "inLine" "I", .fieldLink RX1 11 "PackThreads$Memory" "line" "[LPackThreads$Worker;"] ++ wsX60 ++ wsX10 ++ wsX80)
def wsX6_tellOfThread : List Cond := .code yX6_tellOfThread cX6_tellOfThread 4 (some .int) :: ([.methodLink RX6 88 yX6_worker, .instanceMethod yX6_worker, .selects RX6 yX6_worker yX6_worker, .initialized RX6, .code yX6_worker cX6_worker 2 (some (.object "PackThreads$Worker")), .fieldLink RX6 49 "PackThreads$Stream" "threads" "I", .fieldLink RX6 11 "PackThreads$Stream" "workers" "[LPackThreads$Worker;"] ++ wsX80 ++ wsX60)
def wsX6_tellOfStores : List Cond := .code yX6_tellOfStores cX6_tellOfStores 2 (some .int) :: ([.fieldLink RX6 38 "PackThreads$Stream" "packs" "LPackThreads$Packs;", .fieldLink RX6 27 "PackThreads$Stream" "row" "LPackThreads$Row;", .fieldLink RX6 20 "PackThreads$Stream" "memory" "LPackThreads$Memory;", .methodLink RX6 115 yX2_blocks, .instanceMethod yX2_blocks, .selects RX2 yX2_blocks yX2_blocks, .initialized RX2, .code yX2_blocks cX2_blocks 1 (some .int), .fieldLink RX2 41 "PackThreads$Packs" "blocks" "I", .methodLink RX6 207 yX6_joinedBytes, .instanceMethod yX6_joinedBytes, .selects RX6 yX6_joinedBytes yX6_joinedBytes, .initialized RX6, .code yX6_joinedBytes cX6_joinedBytes 1 (some .int), .methodLink RX6 195 yX2_lengthOfFirst, .instanceMethod yX2_lengthOfFirst, .selects RX2 yX2_lengthOfFirst yX2_lengthOfFirst, .code yX2_lengthOfFirst cX2_lengthOfFirst 2 (some .int), .fieldLink RX2 15 "PackThreads$Packs" "ends" "[I"] ++ wsX60 ++ wsX40 ++ wsX10 ++ wsX20)
def wsX6_tellOfCourse : List Cond := .code yX6_tellOfCourse cX6_tellOfCourse 2 (some .int) :: ([.fieldLink RX6 68 "PackThreads$Stream" "stoppedAt" "I", .fieldLink RX6 71 "PackThreads$Stream" "stoppedKind" "I", .fieldLink RX6 74 "PackThreads$Stream" "failures" "I", .fieldLink RX6 77 "PackThreads$Stream" "turnsDone" "I", .fieldLink RX6 34 "PackThreads$Stream" "failed" "LPackThreads$Failed;"] ++ wsX60 ++ wsX00)
def wsX7_init : List Cond := .code yX7_init cX7_init 1 none :: ([.methodLink RX7 3 objectInit, .instanceMethod objectInit, .code objectInit ⟨#[0xb1]⟩ 1 none, .arrayClass .int, .fieldLink RX7 9 "PackThreads$Text" "bytes" "[I"] ++ wsX70)
def wsX7_isFull : List Cond := .code yX7_isFull cX7_isFull 1 (some .boolean) :: ([.fieldLink RX7 15 "PackThreads$Text" "length" "I", .fieldLink RX7 9 "PackThreads$Text" "bytes" "[I"] ++ wsX70)
def wsX7_add : List Cond := .code yX7_add cX7_add 2 none :: ([.fieldLink RX7 15 "PackThreads$Text" "length" "I", .fieldLink RX7 9 "PackThreads$Text" "bytes" "[I"] ++ wsX70)
def wsX7_empty : List Cond := .code yX7_empty cX7_empty 1 none :: ([.fieldLink RX7 15 "PackThreads$Text" "length" "I"] ++ wsX70)
def wsX9_init_r1 : List Cond := [Cond.methodLink RX9 3 objectInit, Cond.instanceMethod objectInit, Cond.code objectInit ⟨#[0xb1]⟩ 1 none, Cond.classLink RX9 9 RX7, Cond.instantiable RX7 2, Cond.initialized RX7, Cond.fieldLink RX9 12 "PackThreads" "text" "LPackThreads$Text;", Cond.classLink RX9 16 RX5, Cond.instantiable RX5 4, Cond.initialized RX5, Cond.fieldLink RX9 19 "PackThreads" "settings" "LPackThreads$Settings;", Cond.classLink RX9 23 RX3, Cond.instantiable RX3 3, Cond.initialized RX3, Cond.fieldLink RX9 26 "PackThreads" "plants" "LPackThreads$Plants;", Cond.classLink RX9 30 RX2, Cond.instantiable RX2 9, Cond.initialized RX2, Cond.fieldLink RX9 35 "PackThreads" "packs" "LPackThreads$Packs;", Cond.classLink RX9 39 RX6, Cond.instantiable RX6 13, Cond.initialized RX6, Cond.fieldLink RX9 44 "PackThreads" "stream" "LPackThreads$Stream;", Cond.fieldLink RX9 48 "PackThreads" "begun" "Z"]
def wsX9_init_r2 : List Cond := [Cond.instanceMethod yX7_init, Cond.code yX7_init cX7_init 1 none, Cond.methodLink RX7 3 objectInit, Cond.arrayClass .int, Cond.fieldLink RX7 9 "PackThreads$Text" "bytes" "[I", Cond.instanceMethod yX5_init, Cond.code yX5_init cX5_init 1 none, Cond.methodLink RX5 1 objectInit, Cond.fieldLink RX5 7 "PackThreads$Settings" "size" "I", Cond.fieldLink RX5 13 "PackThreads$Settings" "window" "I", Cond.fieldLink RX5 16 "PackThreads$Settings" "cells" "I", Cond.fieldLink RX5 19 "PackThreads$Settings" "rowLimit" "I", Cond.instanceMethod yX3_init, Cond.code yX3_init cX3_init 1 none, Cond.methodLink RX3 3 objectInit, Cond.fieldLink RX3 9 "PackThreads$Plants" "steps" "[I", Cond.fieldLink RX3 15 "PackThreads$Plants" "kinds" "[I", Cond.arrayClass .boolean, Cond.fieldLink RX3 18 "PackThreads$Plants" "forTwice" "[Z", Cond.methodLink RX9 32 yX2_init, Cond.instanceMethod yX2_init, Cond.code yX2_init cX2_init 3 none, Cond.methodLink RX2 3 objectInit, Cond.fieldLink RX2 9 "PackThreads$Packs" "bytes" "[I"]
def wsX9_init_r3 : List Cond := [Cond.fieldLink RX2 15 "PackThreads$Packs" "ends" "[I", Cond.fieldLink RX2 18 "PackThreads$Packs" "tokens" "[I", Cond.fieldLink RX2 21 "PackThreads$Packs" "text" "LPackThreads$Text;", Cond.fieldLink RX2 25 "PackThreads$Packs" "settings" "LPackThreads$Settings;", Cond.methodLink RX9 41 yX6_init, Cond.instanceMethod yX6_init, Cond.code yX6_init cX6_init 4 none, Cond.methodLink RX6 3 objectInit, Cond.classLink RX6 9 RX8, Cond.fieldLink RX6 11 "PackThreads$Stream" "workers" "[LPackThreads$Worker;", Cond.classLink RX6 17 RX1, Cond.instantiable RX1 3, Cond.initialized RX1, Cond.fieldLink RX6 20 "PackThreads$Stream" "memory" "LPackThreads$Memory;", Cond.classLink RX6 24 RX4, Cond.instantiable RX4 4, Cond.initialized RX4, Cond.fieldLink RX6 27 "PackThreads$Stream" "row" "LPackThreads$Row;", Cond.classLink RX6 31 RX0, Cond.instantiable RX0 3, Cond.initialized RX0, Cond.fieldLink RX6 34 "PackThreads$Stream" "failed" "LPackThreads$Failed;", Cond.fieldLink RX6 38 "PackThreads$Stream" "packs" "LPackThreads$Packs;", Cond.fieldLink RX6 42 "PackThreads$Stream" "plants" "LPackThreads$Plants;"]
def wsX9_init_r4 : List Cond := [Cond.instantiable RX8 8, Cond.initialized RX8, Cond.instanceMethod yX1_init, Cond.code yX1_init cX1_init 1 none, Cond.methodLink RX1 3 objectInit, Cond.classLink RX1 9 RX8, Cond.fieldLink RX1 11 "PackThreads$Memory" "line" "[LPackThreads$Worker;", Cond.instanceMethod yX4_init, Cond.code yX4_init cX4_init 1 none, Cond.methodLink RX4 3 objectInit, Cond.fieldLink RX4 9 "PackThreads$Row" "kept" "[Z", Cond.instanceMethod yX0_init, Cond.code yX0_init cX0_init 1 none, Cond.methodLink RX0 3 objectInit, Cond.fieldLink RX0 9 "PackThreads$Failed" "before" "[Z", Cond.fieldLink RX0 15 "PackThreads$Failed" "line" "[I", Cond.methodLink RX6 46 yX8_init, Cond.instanceMethod yX8_init, Cond.code yX8_init cX8_init 2 none, Cond.methodLink RX8 3 objectInit, Cond.fieldLink RX8 9 "PackThreads$Worker" "number" "I"]
def wsX9_init : List Cond := .code yX9_init cX9_init 1 none :: ((wsX9_init_r1 ++ (wsX9_init_r2 ++ (wsX9_init_r3 ++ wsX9_init_r4))) ++ wsX70 ++ wsX90 ++ wsX50 ++ wsX30 ++ wsX20 ++ wsX60 ++ wsX10 ++ wsX40 ++ wsX00 ++ wsX80)
def wsX9_type : List Cond := .code yX9_type cX9_type 2 (some .int) :: ([.fieldLink RX9 48 "PackThreads" "begun" "Z", .fieldLink RX9 12 "PackThreads" "text" "LPackThreads$Text;", .fieldLink RX9 35 "PackThreads" "packs" "LPackThreads$Packs;", .methodLink RX9 52 yX7_isFull, .instanceMethod yX7_isFull, .selects RX7 yX7_isFull yX7_isFull, .initialized RX7, .code yX7_isFull cX7_isFull 1 (some .boolean), .fieldLink RX7 15 "PackThreads$Text" "length" "I", .fieldLink RX7 9 "PackThreads$Text" "bytes" "[I", .methodLink RX9 56 yX7_add, .instanceMethod yX7_add, .selects RX7 yX7_add yX7_add, .code yX7_add cX7_add 2 none, .methodLink RX9 60 yX2_forget, .instanceMethod yX2_forget, .selects RX2 yX2_forget yX2_forget, .initialized RX2, .code yX2_forget cX2_forget 1 none, .fieldLink RX2 29 "PackThreads$Packs" "made" "Z", .methodLink RX9 63 yX7_length, .instanceMethod yX7_length, .selects RX7 yX7_length yX7_length, .code yX7_length cX7_length 1 (some .int)] ++ wsX90 ++ wsX70 ++ wsX20)
def wsX9_set : List Cond := .code yX9_set cX9_set 3 (some .int) :: ([.fieldLink RX9 19 "PackThreads" "settings" "LPackThreads$Settings;", .fieldLink RX9 48 "PackThreads" "begun" "Z", .fieldLink RX9 35 "PackThreads" "packs" "LPackThreads$Packs;", .methodLink RX9 67 yX5_allows, .instanceMethod yX5_allows, .selects RX5 yX5_allows yX5_allows, .initialized RX5, .code yX5_allows cX5_allows 3 (some .boolean), .fieldLink RX5 22 "PackThreads$Settings" "LEAST" "[I", .fieldLink RX5 26 "PackThreads$Settings" "MOST" "[I", .methodLink RX9 60 yX2_forget, .instanceMethod yX2_forget, .selects RX2 yX2_forget yX2_forget, .initialized RX2, .code yX2_forget cX2_forget 1 none, .fieldLink RX2 29 "PackThreads$Packs" "made" "Z", .methodLink RX9 71 yX5_replace, .instanceMethod yX5_replace, .selects RX5 yX5_replace yX5_replace, .code yX5_replace cX5_replace 4 (some .int), .fieldLink RX5 7 "PackThreads$Settings" "size" "I", .fieldLink RX5 13 "PackThreads$Settings" "window" "I", .fieldLink RX5 16 "PackThreads$Settings" "cells" "I", .fieldLink RX5 19 "PackThreads$Settings" "rowLimit" "I"] ++ wsX90 ++ wsX20 ++ wsX50)
def wsX9_plant : List Cond := .code yX9_plant cX9_plant 5 (some .int) :: ([.fieldLink RX9 48 "PackThreads" "begun" "Z", .fieldLink RX9 26 "PackThreads" "plants" "LPackThreads$Plants;", .methodLink RX9 75 yX3_put, .instanceMethod yX3_put, .selects RX3 yX3_put yX3_put, .initialized RX3, .code yX3_put cX3_put 5 none, .fieldLink RX3 9 "PackThreads$Plants" "steps" "[I", .fieldLink RX3 15 "PackThreads$Plants" "kinds" "[I", .fieldLink RX3 18 "PackThreads$Plants" "forTwice" "[Z"] ++ wsX90 ++ wsX30)
def wsX9_begin_r1 : List Cond := [Cond.fieldLink RX9 48 "PackThreads" "begun" "Z", Cond.fieldLink RX9 35 "PackThreads" "packs" "LPackThreads$Packs;", Cond.fieldLink RX9 44 "PackThreads" "stream" "LPackThreads$Stream;", Cond.fieldLink RX9 19 "PackThreads" "settings" "LPackThreads$Settings;", Cond.methodLink RX9 79 yX2_make, Cond.instanceMethod yX2_make, Cond.selects RX2 yX2_make yX2_make, Cond.initialized RX2, Cond.code yX2_make cX2_make 3 none, Cond.fieldLink RX2 29 "PackThreads$Packs" "made" "Z", Cond.fieldLink RX2 33 "PackThreads$Packs" "count" "I", Cond.fieldLink RX2 41 "PackThreads$Packs" "blocks" "I", Cond.fieldLink RX2 25 "PackThreads$Packs" "settings" "LPackThreads$Settings;", Cond.fieldLink RX2 18 "PackThreads$Packs" "tokens" "[I", Cond.fieldLink RX2 15 "PackThreads$Packs" "ends" "[I", Cond.methodLink RX2 37 yX2_blocksOfText, Cond.instanceMethod yX2_blocksOfText, Cond.selects RX2 yX2_blocksOfText yX2_blocksOfText, Cond.code yX2_blocksOfText cX2_blocksOfText 2 (some .int), Cond.fieldLink RX2 21 "PackThreads$Packs" "text" "LPackThreads$Text;", Cond.methodLink RX2 44 yX5_size, Cond.instanceMethod yX5_size, Cond.selects RX5 yX5_size yX5_size, Cond.initialized RX5]
def wsX9_begin_r2 : List Cond := [Cond.code yX5_size cX5_size 1 (some .int), Cond.fieldLink RX5 7 "PackThreads$Settings" "size" "I", Cond.methodLink RX2 57 yX7_length, Cond.instanceMethod yX7_length, Cond.selects RX7 yX7_length yX7_length, Cond.initialized RX7, Cond.code yX7_length cX7_length 1 (some .int), Cond.fieldLink RX7 15 "PackThreads$Text" "length" "I", Cond.methodLink RX2 49 yX2_bytesOf, Cond.instanceMethod yX2_bytesOf, Cond.selects RX2 yX2_bytesOf yX2_bytesOf, Cond.code yX2_bytesOf cX2_bytesOf 3 (some .int), Cond.methodLink RX2 94 Lib.Math.min.name, Cond.static Lib.Math.min.name, Cond.initialized "java/lang/Math", Cond.code Lib.Math.min.name Lib.Math.min.code 2 (some .int), Cond.methodLink RX2 83 Lib.Math.max.name, Cond.static Lib.Math.max.name, Cond.code Lib.Math.max.name Lib.Math.max.code 2 (some .int), Cond.methodLink RX2 53 yX2_packBytes, Cond.instanceMethod yX2_packBytes, Cond.selects RX2 yX2_packBytes yX2_packBytes, Cond.code yX2_packBytes cX2_packBytes 7 (some .int), Cond.fieldLink RX2 62 "PackThreads$Packs" "runAt" "I"]
def wsX9_begin_r3 : List Cond := [Cond.methodLink RX2 65 yX2_bestDistance, Cond.instanceMethod yX2_bestDistance, Cond.selects RX2 yX2_bestDistance yX2_bestDistance, Cond.code yX2_bestDistance cX2_bestDistance 8 (some .int), Cond.methodLink RX2 91 yX5_window, Cond.instanceMethod yX5_window, Cond.selects RX5 yX5_window yX5_window, Cond.code yX5_window cX5_window 1 (some .int), Cond.fieldLink RX5 13 "PackThreads$Settings" "window" "I", Cond.methodLink RX2 68 yX2_alike, Cond.instanceMethod yX2_alike, Cond.selects RX2 yX2_alike yX2_alike, Cond.code yX2_alike cX2_alike 5 (some .int), Cond.methodLink RX2 72 yX7_at, Cond.instanceMethod yX7_at, Cond.selects RX7 yX7_at yX7_at, Cond.code yX7_at cX7_at 2 (some .int), Cond.fieldLink RX7 9 "PackThreads$Text" "bytes" "[I", Cond.methodLink RX2 75 yX2_putByte, Cond.instanceMethod yX2_putByte, Cond.selects RX2 yX2_putByte yX2_putByte, Cond.code yX2_putByte cX2_putByte 2 none, Cond.fieldLink RX2 9 "PackThreads$Packs" "bytes" "[I", Cond.methodLink RX2 88 yX2_put]
def wsX9_begin_r4 : List Cond := [Cond.instanceMethod yX2_put, Cond.selects RX2 yX2_put yX2_put, Cond.code yX2_put cX2_put 2 none, Cond.methodLink RX2 79 yX2_putCopy, Cond.instanceMethod yX2_putCopy, Cond.selects RX2 yX2_putCopy yX2_putCopy, Cond.code yX2_putCopy cX2_putCopy 3 none, Cond.methodLink RX9 82 yX5_cells, Cond.instanceMethod yX5_cells, Cond.selects RX5 yX5_cells yX5_cells, Cond.code yX5_cells cX5_cells 1 (some .int), Cond.fieldLink RX5 16 "PackThreads$Settings" "cells" "I", Cond.methodLink RX9 85 yX5_rowLimit, Cond.instanceMethod yX5_rowLimit, Cond.selects RX5 yX5_rowLimit yX5_rowLimit, Cond.code yX5_rowLimit cX5_rowLimit 1 (some .int), Cond.fieldLink RX5 19 "PackThreads$Settings" "rowLimit" "I", Cond.methodLink RX9 88 yX6_start, Cond.instanceMethod yX6_start, Cond.selects RX6 yX6_start yX6_start, Cond.initialized RX6, Cond.code yX6_start cX6_start 5 none, Cond.fieldLink RX6 49 "PackThreads$Stream" "threads" "I", Cond.fieldLink RX6 11 "PackThreads$Stream" "workers" "[LPackThreads$Worker;"]
def wsX9_begin_r5 : List Cond := [Cond.fieldLink RX6 20 "PackThreads$Stream" "memory" "LPackThreads$Memory;", Cond.fieldLink RX6 27 "PackThreads$Stream" "row" "LPackThreads$Row;", Cond.fieldLink RX6 34 "PackThreads$Stream" "failed" "LPackThreads$Failed;", Cond.fieldLink RX6 62 "PackThreads$Stream" "latest" "I", Cond.fieldLink RX6 65 "PackThreads$Stream" "nextBlock" "I", Cond.fieldLink RX6 68 "PackThreads$Stream" "stoppedAt" "I", Cond.fieldLink RX6 71 "PackThreads$Stream" "stoppedKind" "I", Cond.fieldLink RX6 74 "PackThreads$Stream" "failures" "I", Cond.fieldLink RX6 77 "PackThreads$Stream" "turnsDone" "I", Cond.methodLink RX6 53 yX8_renew, Cond.instanceMethod yX8_renew, Cond.selects RX8 yX8_renew yX8_renew, Cond.initialized RX8, Cond.code yX8_renew cX8_renew 1 none, Cond.fieldLink RX8 18 "PackThreads$Worker" "made" "I", Cond.fieldLink RX8 21 "PackThreads$Worker" "timesEnded" "I", Cond.fieldLink RX8 24 "PackThreads$Worker" "interrupted" "Z", Cond.methodLink RX8 15 yX8_becomeFree, Cond.instanceMethod yX8_becomeFree, Cond.selects RX8 yX8_becomeFree yX8_becomeFree, Cond.code yX8_becomeFree cX8_becomeFree 1 none, Cond.fieldLink RX8 28 "PackThreads$Worker" "state" "I", Cond.fieldLink RX8 31 "PackThreads$Worker" "block" "I", Cond.fieldLink RX8 34 "PackThreads$Worker" "step" "I"]
def wsX9_begin_r6 : List Cond := [Cond.fieldLink RX8 37 "PackThreads$Worker" "cells" "I", Cond.methodLink RX6 56 yX1_fill, Cond.instanceMethod yX1_fill, Cond.selects RX1 yX1_fill yX1_fill, Cond.initialized RX1, Cond.code yX1_fill cX1_fill 2 none, Cond.fieldLink RX1 17 "PackThreads$Memory" "left" "I", Cond.fieldLink RX1 21 "PackThreads$Memory" "inLine" "I", Cond.methodLink RX6 59 yX4_renew, Cond.instanceMethod yX4_renew, Cond.selects RX4 yX4_renew yX4_renew, Cond.initialized RX4, Cond.code yX4_renew cX4_renew 3 none, Cond.fieldLink RX4 9 "PackThreads$Row" "kept" "[Z", Cond.fieldLink RX4 15 "PackThreads$Row" "packs" "I", Cond.fieldLink RX4 19 "PackThreads$Row" "limit" "I", Cond.fieldLink RX4 22 "PackThreads$Row" "joined" "I", Cond.methodLink RX6 61 yX0_renew, Cond.instanceMethod yX0_renew, Cond.selects RX0 yX0_renew yX0_renew, Cond.initialized RX0, Cond.code yX0_renew cX0_renew 2 none, Cond.fieldLink RX0 9 "PackThreads$Failed" "before" "[Z", Cond.fieldLink RX0 19 "PackThreads$Failed" "inLine" "I"]
def wsX9_begin_r7 : List Cond := [Cond.methodLink RX9 92 yX2_blocks, Cond.instanceMethod yX2_blocks, Cond.selects RX2 yX2_blocks yX2_blocks, Cond.code yX2_blocks cX2_blocks 1 (some .int)]
def wsX9_begin : List Cond := .code yX9_begin cX9_begin 2 (some .int) :: ((wsX9_begin_r1 ++ (wsX9_begin_r2 ++ (wsX9_begin_r3 ++ (wsX9_begin_r4 ++ (wsX9_begin_r5 ++ (wsX9_begin_r6 ++ wsX9_begin_r7)))))) ++ wsX90 ++ wsX20 ++ wsX50 ++ wsX70 ++ wsX60 ++ wsX80 ++ wsX10 ++ wsX40 ++ wsX00)
def wsX9_isThread : List Cond := .code yX9_isThread cX9_isThread 3 (some .boolean) :: ([.fieldLink RX9 48 "PackThreads" "begun" "Z", .fieldLink RX9 44 "PackThreads" "stream" "LPackThreads$Stream;", .methodLink RX9 136 yX6_threads, .instanceMethod yX6_threads, .selects RX6 yX6_threads yX6_threads, .initialized RX6, .code yX6_threads cX6_threads 1 (some .int), .fieldLink RX6 49 "PackThreads$Stream" "threads" "I"] ++ wsX90 ++ wsX60)
def wsX9_turn_r1 : List Cond := [Cond.fieldLink RX9 48 "PackThreads" "begun" "Z", Cond.fieldLink RX9 44 "PackThreads" "stream" "LPackThreads$Stream;", Cond.methodLink RX9 95 yX9_isThread, Cond.instanceMethod yX9_isThread, Cond.selects RX9 yX9_isThread yX9_isThread, Cond.initialized RX9, Cond.code yX9_isThread cX9_isThread 3 (some .boolean), Cond.methodLink RX9 136 yX6_threads, Cond.instanceMethod yX6_threads, Cond.selects RX6 yX6_threads yX6_threads, Cond.initialized RX6, Cond.code yX6_threads cX6_threads 1 (some .int), Cond.fieldLink RX6 49 "PackThreads$Stream" "threads" "I", Cond.methodLink RX9 99 yX6_giveTurn, Cond.instanceMethod yX6_giveTurn, Cond.selects RX6 yX6_giveTurn yX6_giveTurn, Cond.code yX6_giveTurn cX6_giveTurn 4 (some .boolean), Cond.fieldLink RX6 62 "PackThreads$Stream" "latest" "I", Cond.fieldLink RX6 77 "PackThreads$Stream" "turnsDone" "I", Cond.methodLink RX6 88 yX6_worker, Cond.instanceMethod yX6_worker, Cond.selects RX6 yX6_worker yX6_worker, Cond.code yX6_worker cX6_worker 2 (some (.object "PackThreads$Worker")), Cond.fieldLink RX6 11 "PackThreads$Stream" "workers" "[LPackThreads$Worker;"]
def wsX9_turn_r2 : List Cond := [Cond.methodLink RX6 95 yX6_doFree, Cond.instanceMethod yX6_doFree, Cond.selects RX6 yX6_doFree yX6_doFree, Cond.code yX6_doFree cX6_doFree 2 (some .boolean), Cond.fieldLink RX6 27 "PackThreads$Stream" "row" "LPackThreads$Row;", Cond.fieldLink RX6 38 "PackThreads$Stream" "packs" "LPackThreads$Packs;", Cond.fieldLink RX6 34 "PackThreads$Stream" "failed" "LPackThreads$Failed;", Cond.fieldLink RX6 65 "PackThreads$Stream" "nextBlock" "I", Cond.methodLink RX6 109 yX6_hasStopped, Cond.instanceMethod yX6_hasStopped, Cond.selects RX6 yX6_hasStopped yX6_hasStopped, Cond.code yX6_hasStopped cX6_hasStopped 1 (some .boolean), Cond.fieldLink RX6 68 "PackThreads$Stream" "stoppedAt" "I", Cond.methodLink RX6 115 yX2_blocks, Cond.instanceMethod yX2_blocks, Cond.selects RX2 yX2_blocks yX2_blocks, Cond.initialized RX2, Cond.code yX2_blocks cX2_blocks 1 (some .int), Cond.fieldLink RX2 41 "PackThreads$Packs" "blocks" "I", Cond.methodLink RX6 121 yX8_end, Cond.instanceMethod yX8_end, Cond.selects RX8 yX8_end yX8_end, Cond.initialized RX8, Cond.code yX8_end cX8_end 1 none]
def wsX9_turn_r3 : List Cond := [Cond.fieldLink RX8 28 "PackThreads$Worker" "state" "I", Cond.fieldLink RX8 21 "PackThreads$Worker" "timesEnded" "I", Cond.methodLink RX8 15 yX8_becomeFree, Cond.instanceMethod yX8_becomeFree, Cond.selects RX8 yX8_becomeFree yX8_becomeFree, Cond.code yX8_becomeFree cX8_becomeFree 1 none, Cond.fieldLink RX8 31 "PackThreads$Worker" "block" "I", Cond.fieldLink RX8 34 "PackThreads$Worker" "step" "I", Cond.fieldLink RX8 37 "PackThreads$Worker" "cells" "I", Cond.methodLink RX6 124 yX6_isBlockDoneAgain, Cond.instanceMethod yX6_isBlockDoneAgain, Cond.selects RX6 yX6_isBlockDoneAgain yX6_isBlockDoneAgain, Cond.code yX6_isBlockDoneAgain cX6_isBlockDoneAgain 3 (some .boolean), Cond.methodLink RX6 158 yX0_has, Cond.instanceMethod yX0_has, Cond.selects RX0 yX0_has yX0_has, Cond.initialized RX0, Cond.code yX0_has cX0_has 2 (some .boolean), Cond.fieldLink RX0 9 "PackThreads$Failed" "before" "[Z", Cond.methodLink RX6 130 yX6_isAnyAtWork, Cond.instanceMethod yX6_isAnyAtWork, Cond.selects RX6 yX6_isAnyAtWork yX6_isAnyAtWork, Cond.code yX6_isAnyAtWork cX6_isAnyAtWork 2 (some .boolean), Cond.methodLink RX6 133 yX0_takeFirst]
def wsX9_turn_r4 : List Cond := [Cond.instanceMethod yX0_takeFirst, Cond.selects RX0 yX0_takeFirst yX0_takeFirst, Cond.code yX0_takeFirst cX0_takeFirst 3 (some .int), Cond.fieldLink RX0 19 "PackThreads$Failed" "inLine" "I", Cond.fieldLink RX0 15 "PackThreads$Failed" "line" "[I", Cond.methodLink RX6 136 yX6_take, Cond.instanceMethod yX6_take, Cond.selects RX6 yX6_take yX6_take, Cond.code yX6_take cX6_take 3 none, Cond.fieldLink RX6 20 "PackThreads$Stream" "memory" "LPackThreads$Memory;", Cond.methodLink RX6 140 yX2_bytesOf, Cond.instanceMethod yX2_bytesOf, Cond.selects RX2 yX2_bytesOf yX2_bytesOf, Cond.code yX2_bytesOf cX2_bytesOf 3 (some .int), Cond.fieldLink RX2 25 "PackThreads$Packs" "settings" "LPackThreads$Settings;", Cond.fieldLink RX2 21 "PackThreads$Packs" "text" "LPackThreads$Text;", Cond.methodLink RX2 94 Lib.Math.min.name, Cond.static Lib.Math.min.name, Cond.initialized "java/lang/Math", Cond.code Lib.Math.min.name Lib.Math.min.code 2 (some .int), Cond.methodLink RX2 83 Lib.Math.max.name, Cond.static Lib.Math.max.name, Cond.code Lib.Math.max.name Lib.Math.max.code 2 (some .int), Cond.methodLink RX2 44 yX5_size]
def wsX9_turn_r5 : List Cond := [Cond.instanceMethod yX5_size, Cond.selects RX5 yX5_size yX5_size, Cond.initialized RX5, Cond.code yX5_size cX5_size 1 (some .int), Cond.fieldLink RX5 7 "PackThreads$Settings" "size" "I", Cond.methodLink RX2 57 yX7_length, Cond.instanceMethod yX7_length, Cond.selects RX7 yX7_length yX7_length, Cond.initialized RX7, Cond.code yX7_length cX7_length 1 (some .int), Cond.fieldLink RX7 15 "PackThreads$Text" "length" "I", Cond.methodLink RX6 144 yX8_choose, Cond.instanceMethod yX8_choose, Cond.selects RX8 yX8_choose yX8_choose, Cond.code yX8_choose cX8_choose 3 none, Cond.methodLink RX6 148 yX1_ask, Cond.instanceMethod yX1_ask, Cond.selects RX1 yX1_ask yX1_ask, Cond.initialized RX1, Cond.code yX1_ask cX1_ask 2 none, Cond.fieldLink RX1 21 "PackThreads$Memory" "inLine" "I", Cond.fieldLink RX1 17 "PackThreads$Memory" "left" "I", Cond.fieldLink RX1 11 "PackThreads$Memory" "line" "[LPackThreads$Worker;", Cond.methodLink RX1 27 yX8_startWork]
def wsX9_turn_r6 : List Cond := [Cond.instanceMethod yX8_startWork, Cond.selects RX8 yX8_startWork yX8_startWork, Cond.code yX8_startWork cX8_startWork 1 none, Cond.methodLink RX1 30 yX8_waitInLine, Cond.instanceMethod yX8_waitInLine, Cond.selects RX8 yX8_waitInLine yX8_waitInLine, Cond.code yX8_waitInLine cX8_waitInLine 1 none, Cond.methodLink RX6 99 yX6_doWork, Cond.instanceMethod yX6_doWork, Cond.selects RX6 yX6_doWork yX6_doWork, Cond.code yX6_doWork cX6_doWork 4 (some .boolean), Cond.fieldLink RX6 42 "PackThreads$Stream" "plants" "LPackThreads$Plants;", Cond.methodLink RX6 161 yX3_kindAt, Cond.instanceMethod yX3_kindAt, Cond.selects RX3 yX3_kindAt yX3_kindAt, Cond.initialized RX3, Cond.code yX3_kindAt cX3_kindAt 4 (some .int), Cond.fieldLink RX3 9 "PackThreads$Plants" "steps" "[I", Cond.fieldLink RX3 18 "PackThreads$Plants" "forTwice" "[Z", Cond.fieldLink RX3 15 "PackThreads$Plants" "kinds" "[I", Cond.methodLink RX6 167 yX6_fail, Cond.instanceMethod yX6_fail, Cond.selects RX6 yX6_fail yX6_fail, Cond.code yX6_fail cX6_fail 4 none]
def wsX9_turn_r7 : List Cond := [Cond.fieldLink RX6 74 "PackThreads$Stream" "failures" "I", Cond.fieldLink RX6 71 "PackThreads$Stream" "stoppedKind" "I", Cond.methodLink RX6 176 yX1_giveBack, Cond.instanceMethod yX1_giveBack, Cond.selects RX1 yX1_giveBack yX1_giveBack, Cond.code yX1_giveBack cX1_giveBack 4 none, Cond.methodLink RX1 33 yX1_dropFirst, Cond.instanceMethod yX1_dropFirst, Cond.selects RX1 yX1_dropFirst yX1_dropFirst, Cond.code yX1_dropFirst cX1_dropFirst 2 none, Cond.methodLink RX6 185 yX8_becomeFree, Cond.methodLink RX6 188 yX0_add, Cond.instanceMethod yX0_add, Cond.selects RX0 yX0_add yX0_add, Cond.code yX0_add cX0_add 2 none, Cond.methodLink RX6 170 yX2_tokensOf, Cond.instanceMethod yX2_tokensOf, Cond.selects RX2 yX2_tokensOf yX2_tokensOf, Cond.code yX2_tokensOf cX2_tokensOf 2 (some .int), Cond.fieldLink RX2 18 "PackThreads$Packs" "tokens" "[I", Cond.methodLink RX6 179 yX8_holdPack, Cond.instanceMethod yX8_holdPack, Cond.selects RX8 yX8_holdPack yX8_holdPack, Cond.code yX8_holdPack cX8_holdPack 1 none]
def wsX9_turn_r8 : List Cond := [Cond.fieldLink RX8 18 "PackThreads$Worker" "made" "I", Cond.methodLink RX6 182 yX6_layPack, Cond.instanceMethod yX6_layPack, Cond.selects RX6 yX6_layPack yX6_layPack, Cond.code yX6_layPack cX6_layPack 2 (some .boolean), Cond.methodLink RX6 191 yX4_lay, Cond.instanceMethod yX4_lay, Cond.selects RX4 yX4_lay yX4_lay, Cond.initialized RX4, Cond.code yX4_lay cX4_lay 2 (some .boolean), Cond.fieldLink RX4 9 "PackThreads$Row" "kept" "[Z", Cond.fieldLink RX4 22 "PackThreads$Row" "joined" "I", Cond.fieldLink RX4 15 "PackThreads$Row" "packs" "I", Cond.fieldLink RX4 19 "PackThreads$Row" "limit" "I", Cond.methodLink RX6 102 yX6_doHolding, Cond.instanceMethod yX6_doHolding, Cond.selects RX6 yX6_doHolding yX6_doHolding, Cond.code yX6_doHolding cX6_doHolding 2 (some .boolean)]
def wsX9_turn : List Cond := .code yX9_turn cX9_turn 2 (some .int) :: ((wsX9_turn_r1 ++ (wsX9_turn_r2 ++ (wsX9_turn_r3 ++ (wsX9_turn_r4 ++ (wsX9_turn_r5 ++ (wsX9_turn_r6 ++ (wsX9_turn_r7 ++ wsX9_turn_r8))))))) ++ wsX90 ++ wsX60 ++ wsX80 ++ wsX40 ++ wsX00 ++ wsX20 ++ wsX50 ++ wsX70 ++ wsX10 ++ wsX30)
def wsX9_run_r1 : List Cond := [Cond.fieldLink RX9 48 "PackThreads" "begun" "Z", Cond.fieldLink RX9 44 "PackThreads" "stream" "LPackThreads$Stream;", Cond.methodLink RX9 102 yX6_giveTurnsInRing, Cond.instanceMethod yX6_giveTurnsInRing, Cond.selects RX6 yX6_giveTurnsInRing yX6_giveTurnsInRing, Cond.initialized RX6, Cond.code yX6_giveTurnsInRing cX6_giveTurnsInRing 5 (some .int), Cond.fieldLink RX6 62 "PackThreads$Stream" "latest" "I", Cond.fieldLink RX6 49 "PackThreads$Stream" "threads" "I", Cond.methodLink RX6 80 yX6_allEnded, Cond.instanceMethod yX6_allEnded, Cond.selects RX6 yX6_allEnded yX6_allEnded, Cond.code yX6_allEnded cX6_allEnded 2 (some .boolean), Cond.fieldLink RX6 11 "PackThreads$Stream" "workers" "[LPackThreads$Worker;", Cond.methodLink RX6 84 yX6_giveTurn, Cond.instanceMethod yX6_giveTurn, Cond.selects RX6 yX6_giveTurn yX6_giveTurn, Cond.code yX6_giveTurn cX6_giveTurn 4 (some .boolean), Cond.fieldLink RX6 77 "PackThreads$Stream" "turnsDone" "I", Cond.methodLink RX6 88 yX6_worker, Cond.instanceMethod yX6_worker, Cond.selects RX6 yX6_worker yX6_worker, Cond.code yX6_worker cX6_worker 2 (some (.object "PackThreads$Worker")), Cond.methodLink RX6 95 yX6_doFree]
def wsX9_run_r2 : List Cond := [Cond.instanceMethod yX6_doFree, Cond.selects RX6 yX6_doFree yX6_doFree, Cond.code yX6_doFree cX6_doFree 2 (some .boolean), Cond.fieldLink RX6 27 "PackThreads$Stream" "row" "LPackThreads$Row;", Cond.fieldLink RX6 38 "PackThreads$Stream" "packs" "LPackThreads$Packs;", Cond.fieldLink RX6 34 "PackThreads$Stream" "failed" "LPackThreads$Failed;", Cond.fieldLink RX6 65 "PackThreads$Stream" "nextBlock" "I", Cond.methodLink RX6 109 yX6_hasStopped, Cond.instanceMethod yX6_hasStopped, Cond.selects RX6 yX6_hasStopped yX6_hasStopped, Cond.code yX6_hasStopped cX6_hasStopped 1 (some .boolean), Cond.fieldLink RX6 68 "PackThreads$Stream" "stoppedAt" "I", Cond.methodLink RX6 115 yX2_blocks, Cond.instanceMethod yX2_blocks, Cond.selects RX2 yX2_blocks yX2_blocks, Cond.initialized RX2, Cond.code yX2_blocks cX2_blocks 1 (some .int), Cond.fieldLink RX2 41 "PackThreads$Packs" "blocks" "I", Cond.methodLink RX6 121 yX8_end, Cond.instanceMethod yX8_end, Cond.selects RX8 yX8_end yX8_end, Cond.initialized RX8, Cond.code yX8_end cX8_end 1 none, Cond.fieldLink RX8 28 "PackThreads$Worker" "state" "I"]
def wsX9_run_r3 : List Cond := [Cond.fieldLink RX8 21 "PackThreads$Worker" "timesEnded" "I", Cond.methodLink RX8 15 yX8_becomeFree, Cond.instanceMethod yX8_becomeFree, Cond.selects RX8 yX8_becomeFree yX8_becomeFree, Cond.code yX8_becomeFree cX8_becomeFree 1 none, Cond.fieldLink RX8 31 "PackThreads$Worker" "block" "I", Cond.fieldLink RX8 34 "PackThreads$Worker" "step" "I", Cond.fieldLink RX8 37 "PackThreads$Worker" "cells" "I", Cond.methodLink RX6 124 yX6_isBlockDoneAgain, Cond.instanceMethod yX6_isBlockDoneAgain, Cond.selects RX6 yX6_isBlockDoneAgain yX6_isBlockDoneAgain, Cond.code yX6_isBlockDoneAgain cX6_isBlockDoneAgain 3 (some .boolean), Cond.methodLink RX6 158 yX0_has, Cond.instanceMethod yX0_has, Cond.selects RX0 yX0_has yX0_has, Cond.initialized RX0, Cond.code yX0_has cX0_has 2 (some .boolean), Cond.fieldLink RX0 9 "PackThreads$Failed" "before" "[Z", Cond.methodLink RX6 130 yX6_isAnyAtWork, Cond.instanceMethod yX6_isAnyAtWork, Cond.selects RX6 yX6_isAnyAtWork yX6_isAnyAtWork, Cond.code yX6_isAnyAtWork cX6_isAnyAtWork 2 (some .boolean), Cond.methodLink RX6 133 yX0_takeFirst, Cond.instanceMethod yX0_takeFirst]
def wsX9_run_r4 : List Cond := [Cond.selects RX0 yX0_takeFirst yX0_takeFirst, Cond.code yX0_takeFirst cX0_takeFirst 3 (some .int), Cond.fieldLink RX0 19 "PackThreads$Failed" "inLine" "I", Cond.fieldLink RX0 15 "PackThreads$Failed" "line" "[I", Cond.methodLink RX6 136 yX6_take, Cond.instanceMethod yX6_take, Cond.selects RX6 yX6_take yX6_take, Cond.code yX6_take cX6_take 3 none, Cond.fieldLink RX6 20 "PackThreads$Stream" "memory" "LPackThreads$Memory;", Cond.methodLink RX6 140 yX2_bytesOf, Cond.instanceMethod yX2_bytesOf, Cond.selects RX2 yX2_bytesOf yX2_bytesOf, Cond.code yX2_bytesOf cX2_bytesOf 3 (some .int), Cond.fieldLink RX2 25 "PackThreads$Packs" "settings" "LPackThreads$Settings;", Cond.fieldLink RX2 21 "PackThreads$Packs" "text" "LPackThreads$Text;", Cond.methodLink RX2 94 Lib.Math.min.name, Cond.static Lib.Math.min.name, Cond.initialized "java/lang/Math", Cond.code Lib.Math.min.name Lib.Math.min.code 2 (some .int), Cond.methodLink RX2 83 Lib.Math.max.name, Cond.static Lib.Math.max.name, Cond.code Lib.Math.max.name Lib.Math.max.code 2 (some .int), Cond.methodLink RX2 44 yX5_size, Cond.instanceMethod yX5_size]
def wsX9_run_r5 : List Cond := [Cond.selects RX5 yX5_size yX5_size, Cond.initialized RX5, Cond.code yX5_size cX5_size 1 (some .int), Cond.fieldLink RX5 7 "PackThreads$Settings" "size" "I", Cond.methodLink RX2 57 yX7_length, Cond.instanceMethod yX7_length, Cond.selects RX7 yX7_length yX7_length, Cond.initialized RX7, Cond.code yX7_length cX7_length 1 (some .int), Cond.fieldLink RX7 15 "PackThreads$Text" "length" "I", Cond.methodLink RX6 144 yX8_choose, Cond.instanceMethod yX8_choose, Cond.selects RX8 yX8_choose yX8_choose, Cond.code yX8_choose cX8_choose 3 none, Cond.methodLink RX6 148 yX1_ask, Cond.instanceMethod yX1_ask, Cond.selects RX1 yX1_ask yX1_ask, Cond.initialized RX1, Cond.code yX1_ask cX1_ask 2 none, Cond.fieldLink RX1 21 "PackThreads$Memory" "inLine" "I", Cond.fieldLink RX1 17 "PackThreads$Memory" "left" "I", Cond.fieldLink RX1 11 "PackThreads$Memory" "line" "[LPackThreads$Worker;", Cond.methodLink RX1 27 yX8_startWork, Cond.instanceMethod yX8_startWork]
def wsX9_run_r6 : List Cond := [Cond.selects RX8 yX8_startWork yX8_startWork, Cond.code yX8_startWork cX8_startWork 1 none, Cond.methodLink RX1 30 yX8_waitInLine, Cond.instanceMethod yX8_waitInLine, Cond.selects RX8 yX8_waitInLine yX8_waitInLine, Cond.code yX8_waitInLine cX8_waitInLine 1 none, Cond.methodLink RX6 99 yX6_doWork, Cond.instanceMethod yX6_doWork, Cond.selects RX6 yX6_doWork yX6_doWork, Cond.code yX6_doWork cX6_doWork 4 (some .boolean), Cond.fieldLink RX6 42 "PackThreads$Stream" "plants" "LPackThreads$Plants;", Cond.methodLink RX6 161 yX3_kindAt, Cond.instanceMethod yX3_kindAt, Cond.selects RX3 yX3_kindAt yX3_kindAt, Cond.initialized RX3, Cond.code yX3_kindAt cX3_kindAt 4 (some .int), Cond.fieldLink RX3 9 "PackThreads$Plants" "steps" "[I", Cond.fieldLink RX3 18 "PackThreads$Plants" "forTwice" "[Z", Cond.fieldLink RX3 15 "PackThreads$Plants" "kinds" "[I", Cond.methodLink RX6 167 yX6_fail, Cond.instanceMethod yX6_fail, Cond.selects RX6 yX6_fail yX6_fail, Cond.code yX6_fail cX6_fail 4 none, Cond.fieldLink RX6 74 "PackThreads$Stream" "failures" "I"]
def wsX9_run_r7 : List Cond := [Cond.fieldLink RX6 71 "PackThreads$Stream" "stoppedKind" "I", Cond.methodLink RX6 176 yX1_giveBack, Cond.instanceMethod yX1_giveBack, Cond.selects RX1 yX1_giveBack yX1_giveBack, Cond.code yX1_giveBack cX1_giveBack 4 none, Cond.methodLink RX1 33 yX1_dropFirst, Cond.instanceMethod yX1_dropFirst, Cond.selects RX1 yX1_dropFirst yX1_dropFirst, Cond.code yX1_dropFirst cX1_dropFirst 2 none, Cond.methodLink RX6 185 yX8_becomeFree, Cond.methodLink RX6 188 yX0_add, Cond.instanceMethod yX0_add, Cond.selects RX0 yX0_add yX0_add, Cond.code yX0_add cX0_add 2 none, Cond.methodLink RX6 170 yX2_tokensOf, Cond.instanceMethod yX2_tokensOf, Cond.selects RX2 yX2_tokensOf yX2_tokensOf, Cond.code yX2_tokensOf cX2_tokensOf 2 (some .int), Cond.fieldLink RX2 18 "PackThreads$Packs" "tokens" "[I", Cond.methodLink RX6 179 yX8_holdPack, Cond.instanceMethod yX8_holdPack, Cond.selects RX8 yX8_holdPack yX8_holdPack, Cond.code yX8_holdPack cX8_holdPack 1 none, Cond.fieldLink RX8 18 "PackThreads$Worker" "made" "I"]
def wsX9_run_r8 : List Cond := [Cond.methodLink RX6 182 yX6_layPack, Cond.instanceMethod yX6_layPack, Cond.selects RX6 yX6_layPack yX6_layPack, Cond.code yX6_layPack cX6_layPack 2 (some .boolean), Cond.methodLink RX6 191 yX4_lay, Cond.instanceMethod yX4_lay, Cond.selects RX4 yX4_lay yX4_lay, Cond.initialized RX4, Cond.code yX4_lay cX4_lay 2 (some .boolean), Cond.fieldLink RX4 9 "PackThreads$Row" "kept" "[Z", Cond.fieldLink RX4 22 "PackThreads$Row" "joined" "I", Cond.fieldLink RX4 15 "PackThreads$Row" "packs" "I", Cond.fieldLink RX4 19 "PackThreads$Row" "limit" "I", Cond.methodLink RX6 102 yX6_doHolding, Cond.instanceMethod yX6_doHolding, Cond.selects RX6 yX6_doHolding yX6_doHolding, Cond.code yX6_doHolding cX6_doHolding 2 (some .boolean)]
def wsX9_run : List Cond := .code yX9_run cX9_run 2 (some .int) :: ((wsX9_run_r1 ++ (wsX9_run_r2 ++ (wsX9_run_r3 ++ (wsX9_run_r4 ++ (wsX9_run_r5 ++ (wsX9_run_r6 ++ (wsX9_run_r7 ++ wsX9_run_r8))))))) ++ wsX90 ++ wsX60 ++ wsX80 ++ wsX40 ++ wsX00 ++ wsX20 ++ wsX50 ++ wsX70 ++ wsX10 ++ wsX30)
def wsX9_interrupt : List Cond := .code yX9_interrupt cX9_interrupt 2 (some .int) :: ([.fieldLink RX9 48 "PackThreads" "begun" "Z", .fieldLink RX9 44 "PackThreads" "stream" "LPackThreads$Stream;", .methodLink RX9 95 yX9_isThread, .instanceMethod yX9_isThread, .selects RX9 yX9_isThread yX9_isThread, .initialized RX9, .code yX9_isThread cX9_isThread 3 (some .boolean), .methodLink RX9 136 yX6_threads, .instanceMethod yX6_threads, .selects RX6 yX6_threads yX6_threads, .initialized RX6, .code yX6_threads cX6_threads 1 (some .int), .fieldLink RX6 49 "PackThreads$Stream" "threads" "I", .methodLink RX9 106 yX6_markInterrupted, .instanceMethod yX6_markInterrupted, .selects RX6 yX6_markInterrupted yX6_markInterrupted, .code yX6_markInterrupted cX6_markInterrupted 3 (some .boolean), .methodLink RX6 88 yX6_worker, .instanceMethod yX6_worker, .selects RX6 yX6_worker yX6_worker, .code yX6_worker cX6_worker 2 (some (.object "PackThreads$Worker")), .fieldLink RX6 11 "PackThreads$Stream" "workers" "[LPackThreads$Worker;"] ++ wsX90 ++ wsX60 ++ wsX80)
def wsX9_thread : List Cond := .code yX9_thread cX9_thread 3 (some .int) :: ([.fieldLink RX9 48 "PackThreads" "begun" "Z", .fieldLink RX9 44 "PackThreads" "stream" "LPackThreads$Stream;", .methodLink RX9 95 yX9_isThread, .instanceMethod yX9_isThread, .selects RX9 yX9_isThread yX9_isThread, .initialized RX9, .code yX9_isThread cX9_isThread 3 (some .boolean), .methodLink RX9 136 yX6_threads, .instanceMethod yX6_threads, .selects RX6 yX6_threads yX6_threads, .initialized RX6, .code yX6_threads cX6_threads 1 (some .int), .fieldLink RX6 49 "PackThreads$Stream" "threads" "I", .methodLink RX9 109 yX6_tellOfThread, .instanceMethod yX6_tellOfThread, .selects RX6 yX6_tellOfThread yX6_tellOfThread, .code yX6_tellOfThread cX6_tellOfThread 4 (some .int), .methodLink RX6 88 yX6_worker, .instanceMethod yX6_worker, .selects RX6 yX6_worker yX6_worker, .code yX6_worker cX6_worker 2 (some (.object "PackThreads$Worker")), .fieldLink RX6 11 "PackThreads$Stream" "workers" "[LPackThreads$Worker;"] ++ wsX90 ++ wsX60 ++ wsX80)
def wsX9_out : List Cond := .code yX9_out cX9_out 2 (some .int) :: ([.fieldLink RX9 48 "PackThreads" "begun" "Z", .fieldLink RX9 44 "PackThreads" "stream" "LPackThreads$Stream;", .fieldLink RX9 35 "PackThreads" "packs" "LPackThreads$Packs;", .methodLink RX9 112 yX6_joinedBytes, .instanceMethod yX6_joinedBytes, .selects RX6 yX6_joinedBytes yX6_joinedBytes, .initialized RX6, .code yX6_joinedBytes cX6_joinedBytes 1 (some .int), .fieldLink RX6 38 "PackThreads$Stream" "packs" "LPackThreads$Packs;", .fieldLink RX6 27 "PackThreads$Stream" "row" "LPackThreads$Row;", .methodLink RX6 195 yX2_lengthOfFirst, .instanceMethod yX2_lengthOfFirst, .selects RX2 yX2_lengthOfFirst yX2_lengthOfFirst, .initialized RX2, .code yX2_lengthOfFirst cX2_lengthOfFirst 2 (some .int), .fieldLink RX2 15 "PackThreads$Packs" "ends" "[I", .methodLink RX9 115 yX2_byteAt, .instanceMethod yX2_byteAt, .selects RX2 yX2_byteAt yX2_byteAt, .code yX2_byteAt cX2_byteAt 2 (some .int), .fieldLink RX2 33 "PackThreads$Packs" "count" "I", .fieldLink RX2 9 "PackThreads$Packs" "bytes" "[I"] ++ wsX90 ++ wsX60 ++ wsX40 ++ wsX20)
def wsX9_told_r1 : List Cond := [Cond.fieldLink RX9 48 "PackThreads" "begun" "Z", Cond.fieldLink RX9 44 "PackThreads" "stream" "LPackThreads$Stream;", Cond.methodLink RX9 118 yX6_tellOfStores, Cond.instanceMethod yX6_tellOfStores, Cond.selects RX6 yX6_tellOfStores yX6_tellOfStores, Cond.initialized RX6, Cond.code yX6_tellOfStores cX6_tellOfStores 2 (some .int), Cond.fieldLink RX6 38 "PackThreads$Stream" "packs" "LPackThreads$Packs;", Cond.fieldLink RX6 27 "PackThreads$Stream" "row" "LPackThreads$Row;", Cond.fieldLink RX6 20 "PackThreads$Stream" "memory" "LPackThreads$Memory;", Cond.methodLink RX6 115 yX2_blocks, Cond.instanceMethod yX2_blocks, Cond.selects RX2 yX2_blocks yX2_blocks, Cond.initialized RX2, Cond.code yX2_blocks cX2_blocks 1 (some .int), Cond.fieldLink RX2 41 "PackThreads$Packs" "blocks" "I", Cond.methodLink RX6 207 yX6_joinedBytes, Cond.instanceMethod yX6_joinedBytes, Cond.selects RX6 yX6_joinedBytes yX6_joinedBytes, Cond.code yX6_joinedBytes cX6_joinedBytes 1 (some .int), Cond.methodLink RX6 195 yX2_lengthOfFirst, Cond.instanceMethod yX2_lengthOfFirst, Cond.selects RX2 yX2_lengthOfFirst yX2_lengthOfFirst, Cond.code yX2_lengthOfFirst cX2_lengthOfFirst 2 (some .int)]
def wsX9_told_r2 : List Cond := [Cond.fieldLink RX2 15 "PackThreads$Packs" "ends" "[I", Cond.methodLink RX9 121 yX6_tellOfCourse, Cond.instanceMethod yX6_tellOfCourse, Cond.selects RX6 yX6_tellOfCourse yX6_tellOfCourse, Cond.code yX6_tellOfCourse cX6_tellOfCourse 2 (some .int), Cond.fieldLink RX6 68 "PackThreads$Stream" "stoppedAt" "I", Cond.fieldLink RX6 71 "PackThreads$Stream" "stoppedKind" "I", Cond.fieldLink RX6 74 "PackThreads$Stream" "failures" "I", Cond.fieldLink RX6 77 "PackThreads$Stream" "turnsDone" "I", Cond.fieldLink RX6 34 "PackThreads$Stream" "failed" "LPackThreads$Failed;"]
def wsX9_told : List Cond := .code yX9_told cX9_told 2 (some .int) :: ((wsX9_told_r1 ++ wsX9_told_r2) ++ wsX90 ++ wsX60 ++ wsX40 ++ wsX10 ++ wsX20 ++ wsX00)
def wsX9_waiting : List Cond := .code yX9_waiting cX9_waiting 2 (some .int) :: ([.fieldLink RX9 48 "PackThreads" "begun" "Z", .fieldLink RX9 44 "PackThreads" "stream" "LPackThreads$Stream;", .methodLink RX9 124 yX6_numberInLine, .instanceMethod yX6_numberInLine, .selects RX6 yX6_numberInLine yX6_numberInLine, .initialized RX6, .code yX6_numberInLine cX6_numberInLine 2 (some .int), .fieldLink RX6 20 "PackThreads$Stream" "memory" "LPackThreads$Memory;", .methodLink RX6 198 yX1_numberAt, .instanceMethod yX1_numberAt, .selects RX1 yX1_numberAt yX1_numberAt, .initialized RX1, .code yX1_numberAt cX1_numberAt 3 (some .int), .fieldLink RX1 21 "PackThreads$Memory" "inLine" "I", .fieldLink RX1 11 "PackThreads$Memory" "line" "[LPackThreads$Worker;"] ++ wsX90 ++ wsX60 ++ wsX10 ++ wsX80)
def wsX9_plain_r1 : List Cond := [Cond.fieldLink RX9 35 "PackThreads" "packs" "LPackThreads$Packs;", Cond.methodLink RX9 79 yX2_make, Cond.instanceMethod yX2_make, Cond.selects RX2 yX2_make yX2_make, Cond.initialized RX2, Cond.code yX2_make cX2_make 3 none, Cond.fieldLink RX2 29 "PackThreads$Packs" "made" "Z", Cond.fieldLink RX2 33 "PackThreads$Packs" "count" "I", Cond.fieldLink RX2 41 "PackThreads$Packs" "blocks" "I", Cond.fieldLink RX2 25 "PackThreads$Packs" "settings" "LPackThreads$Settings;", Cond.fieldLink RX2 18 "PackThreads$Packs" "tokens" "[I", Cond.fieldLink RX2 15 "PackThreads$Packs" "ends" "[I", Cond.methodLink RX2 37 yX2_blocksOfText, Cond.instanceMethod yX2_blocksOfText, Cond.selects RX2 yX2_blocksOfText yX2_blocksOfText, Cond.code yX2_blocksOfText cX2_blocksOfText 2 (some .int), Cond.fieldLink RX2 21 "PackThreads$Packs" "text" "LPackThreads$Text;", Cond.methodLink RX2 44 yX5_size, Cond.instanceMethod yX5_size, Cond.selects RX5 yX5_size yX5_size, Cond.initialized RX5, Cond.code yX5_size cX5_size 1 (some .int), Cond.fieldLink RX5 7 "PackThreads$Settings" "size" "I", Cond.methodLink RX2 57 yX7_length]
def wsX9_plain_r2 : List Cond := [Cond.instanceMethod yX7_length, Cond.selects RX7 yX7_length yX7_length, Cond.initialized RX7, Cond.code yX7_length cX7_length 1 (some .int), Cond.fieldLink RX7 15 "PackThreads$Text" "length" "I", Cond.methodLink RX2 49 yX2_bytesOf, Cond.instanceMethod yX2_bytesOf, Cond.selects RX2 yX2_bytesOf yX2_bytesOf, Cond.code yX2_bytesOf cX2_bytesOf 3 (some .int), Cond.methodLink RX2 94 Lib.Math.min.name, Cond.static Lib.Math.min.name, Cond.initialized "java/lang/Math", Cond.code Lib.Math.min.name Lib.Math.min.code 2 (some .int), Cond.methodLink RX2 83 Lib.Math.max.name, Cond.static Lib.Math.max.name, Cond.code Lib.Math.max.name Lib.Math.max.code 2 (some .int), Cond.methodLink RX2 53 yX2_packBytes, Cond.instanceMethod yX2_packBytes, Cond.selects RX2 yX2_packBytes yX2_packBytes, Cond.code yX2_packBytes cX2_packBytes 7 (some .int), Cond.fieldLink RX2 62 "PackThreads$Packs" "runAt" "I", Cond.methodLink RX2 65 yX2_bestDistance, Cond.instanceMethod yX2_bestDistance, Cond.selects RX2 yX2_bestDistance yX2_bestDistance]
def wsX9_plain_r3 : List Cond := [Cond.code yX2_bestDistance cX2_bestDistance 8 (some .int), Cond.methodLink RX2 91 yX5_window, Cond.instanceMethod yX5_window, Cond.selects RX5 yX5_window yX5_window, Cond.code yX5_window cX5_window 1 (some .int), Cond.fieldLink RX5 13 "PackThreads$Settings" "window" "I", Cond.methodLink RX2 68 yX2_alike, Cond.instanceMethod yX2_alike, Cond.selects RX2 yX2_alike yX2_alike, Cond.code yX2_alike cX2_alike 5 (some .int), Cond.methodLink RX2 72 yX7_at, Cond.instanceMethod yX7_at, Cond.selects RX7 yX7_at yX7_at, Cond.code yX7_at cX7_at 2 (some .int), Cond.fieldLink RX7 9 "PackThreads$Text" "bytes" "[I", Cond.methodLink RX2 75 yX2_putByte, Cond.instanceMethod yX2_putByte, Cond.selects RX2 yX2_putByte yX2_putByte, Cond.code yX2_putByte cX2_putByte 2 none, Cond.fieldLink RX2 9 "PackThreads$Packs" "bytes" "[I", Cond.methodLink RX2 88 yX2_put, Cond.instanceMethod yX2_put, Cond.selects RX2 yX2_put yX2_put, Cond.code yX2_put cX2_put 2 none]
def wsX9_plain_r4 : List Cond := [Cond.methodLink RX2 79 yX2_putCopy, Cond.instanceMethod yX2_putCopy, Cond.selects RX2 yX2_putCopy yX2_putCopy, Cond.code yX2_putCopy cX2_putCopy 3 none, Cond.methodLink RX9 115 yX2_byteAt, Cond.instanceMethod yX2_byteAt, Cond.selects RX2 yX2_byteAt yX2_byteAt, Cond.code yX2_byteAt cX2_byteAt 2 (some .int)]
def wsX9_plain : List Cond := .code yX9_plain cX9_plain 2 (some .int) :: ((wsX9_plain_r1 ++ (wsX9_plain_r2 ++ (wsX9_plain_r3 ++ wsX9_plain_r4))) ++ wsX90 ++ wsX20 ++ wsX50 ++ wsX70)
def wsX9_close_r1 : List Cond := [Cond.fieldLink RX9 48 "PackThreads" "begun" "Z", Cond.fieldLink RX9 44 "PackThreads" "stream" "LPackThreads$Stream;", Cond.methodLink RX9 127 yX6_endAll, Cond.instanceMethod yX6_endAll, Cond.selects RX6 yX6_endAll yX6_endAll, Cond.initialized RX6, Cond.code yX6_endAll cX6_endAll 4 (some .int), Cond.fieldLink RX6 20 "PackThreads$Stream" "memory" "LPackThreads$Memory;", Cond.fieldLink RX6 49 "PackThreads$Stream" "threads" "I", Cond.fieldLink RX6 11 "PackThreads$Stream" "workers" "[LPackThreads$Worker;", Cond.methodLink RX6 176 yX1_giveBack, Cond.instanceMethod yX1_giveBack, Cond.selects RX1 yX1_giveBack yX1_giveBack, Cond.initialized RX1, Cond.code yX1_giveBack cX1_giveBack 4 none, Cond.fieldLink RX1 17 "PackThreads$Memory" "left" "I", Cond.fieldLink RX1 21 "PackThreads$Memory" "inLine" "I", Cond.fieldLink RX1 11 "PackThreads$Memory" "line" "[LPackThreads$Worker;", Cond.methodLink RX1 33 yX1_dropFirst, Cond.instanceMethod yX1_dropFirst, Cond.selects RX1 yX1_dropFirst yX1_dropFirst, Cond.code yX1_dropFirst cX1_dropFirst 2 none, Cond.methodLink RX1 27 yX8_startWork, Cond.instanceMethod yX8_startWork]
def wsX9_close_r2 : List Cond := [Cond.selects RX8 yX8_startWork yX8_startWork, Cond.initialized RX8, Cond.code yX8_startWork cX8_startWork 1 none, Cond.fieldLink RX8 28 "PackThreads$Worker" "state" "I", Cond.fieldLink RX8 34 "PackThreads$Worker" "step" "I", Cond.methodLink RX6 121 yX8_end, Cond.instanceMethod yX8_end, Cond.selects RX8 yX8_end yX8_end, Cond.code yX8_end cX8_end 1 none, Cond.fieldLink RX8 21 "PackThreads$Worker" "timesEnded" "I", Cond.methodLink RX8 15 yX8_becomeFree, Cond.instanceMethod yX8_becomeFree, Cond.selects RX8 yX8_becomeFree yX8_becomeFree, Cond.code yX8_becomeFree cX8_becomeFree 1 none, Cond.fieldLink RX8 31 "PackThreads$Worker" "block" "I", Cond.fieldLink RX8 37 "PackThreads$Worker" "cells" "I"]
def wsX9_close : List Cond := .code yX9_close cX9_close 1 (some .int) :: ((wsX9_close_r1 ++ wsX9_close_r2) ++ wsX90 ++ wsX60 ++ wsX10 ++ wsX80)
def wsX9_clear_r1 : List Cond := [Cond.fieldLink RX9 12 "PackThreads" "text" "LPackThreads$Text;", Cond.fieldLink RX9 26 "PackThreads" "plants" "LPackThreads$Plants;", Cond.fieldLink RX9 35 "PackThreads" "packs" "LPackThreads$Packs;", Cond.fieldLink RX9 48 "PackThreads" "begun" "Z", Cond.methodLink RX9 63 yX7_length, Cond.instanceMethod yX7_length, Cond.selects RX7 yX7_length yX7_length, Cond.initialized RX7, Cond.code yX7_length cX7_length 1 (some .int), Cond.fieldLink RX7 15 "PackThreads$Text" "length" "I", Cond.methodLink RX9 130 yX7_empty, Cond.instanceMethod yX7_empty, Cond.selects RX7 yX7_empty yX7_empty, Cond.code yX7_empty cX7_empty 1 none, Cond.methodLink RX9 133 yX3_removeAll, Cond.instanceMethod yX3_removeAll, Cond.selects RX3 yX3_removeAll yX3_removeAll, Cond.initialized RX3, Cond.code yX3_removeAll cX3_removeAll 2 none, Cond.fieldLink RX3 15 "PackThreads$Plants" "kinds" "[I", Cond.methodLink RX9 60 yX2_forget, Cond.instanceMethod yX2_forget, Cond.selects RX2 yX2_forget yX2_forget, Cond.initialized RX2]
def wsX9_clear_r2 : List Cond := [Cond.code yX2_forget cX2_forget 1 none, Cond.fieldLink RX2 29 "PackThreads$Packs" "made" "Z"]
def wsX9_clear : List Cond := .code yX9_clear cX9_clear 2 (some .int) :: ((wsX9_clear_r1 ++ wsX9_clear_r2) ++ wsX90 ++ wsX70 ++ wsX30 ++ wsX20)
def wsX10_init_r1 : List Cond := [Cond.methodLink RX10 1 objectInit, Cond.instanceMethod objectInit, Cond.code objectInit ⟨#[0xb1]⟩ 1 none, Cond.arrayClass .int, Cond.fieldLink RX10 7 "PackThreadsModel" "text" "[I", Cond.fieldLink RX10 13 "PackThreadsModel" "blockSize" "I", Cond.fieldLink RX10 17 "PackThreadsModel" "window" "I", Cond.fieldLink RX10 20 "PackThreadsModel" "cells" "I", Cond.fieldLink RX10 23 "PackThreadsModel" "most" "I", Cond.fieldLink RX10 26 "PackThreadsModel" "plantKind" "[I", Cond.fieldLink RX10 29 "PackThreadsModel" "plantStep" "[I", Cond.arrayClass .boolean, Cond.fieldLink RX10 32 "PackThreadsModel" "plantTwice" "[Z", Cond.fieldLink RX10 36 "PackThreadsModel" "pack" "[I", Cond.fieldLink RX10 39 "PackThreadsModel" "packEnd" "[I", Cond.fieldLink RX10 42 "PackThreadsModel" "tokens" "[I", Cond.fieldLink RX10 45 "PackThreadsModel" "state" "[I", Cond.fieldLink RX10 48 "PackThreadsModel" "block" "[I", Cond.fieldLink RX10 51 "PackThreadsModel" "step" "[I", Cond.fieldLink RX10 54 "PackThreadsModel" "made" "[I", Cond.fieldLink RX10 57 "PackThreadsModel" "ended" "[I", Cond.fieldLink RX10 60 "PackThreadsModel" "isInterrupted" "[Z", Cond.fieldLink RX10 63 "PackThreadsModel" "hasFailed" "[Z", Cond.fieldLink RX10 66 "PackThreadsModel" "again" "[I"]
def wsX10_init_r2 : List Cond := [Cond.fieldLink RX10 69 "PackThreadsModel" "inRow" "[Z", Cond.fieldLink RX10 72 "PackThreadsModel" "line" "[I", Cond.fieldLink RX10 75 "PackThreadsModel" "size" "I"]
def wsX10_init : List Cond := .code yX10_init cX10_init 1 none :: ((wsX10_init_r1 ++ wsX10_init_r2) ++ wsX100)
def wsX10_in : List Cond := .code yX10_in cX10_in 3 (some .boolean) :: ([])
def wsX10_type : List Cond := .code yX10_type cX10_type 2 (some .int) :: ([.fieldLink RX10 82 "PackThreadsModel" "isBegun" "Z", .fieldLink RX10 75 "PackThreadsModel" "size" "I", .fieldLink RX10 7 "PackThreadsModel" "text" "[I", .fieldLink RX10 86 "PackThreadsModel" "isPacked" "Z", .methodLink RX10 78 yX10_in, .static yX10_in, .initialized RX10, .code yX10_in cX10_in 3 (some .boolean)] ++ wsX100)
def wsX10_set : List Cond := .code yX10_set cX10_set 5 (some .int) :: ([.fieldLink RX10 82 "PackThreadsModel" "isBegun" "Z", .fieldLink RX10 13 "PackThreadsModel" "blockSize" "I", .fieldLink RX10 17 "PackThreadsModel" "window" "I", .fieldLink RX10 20 "PackThreadsModel" "cells" "I", .fieldLink RX10 23 "PackThreadsModel" "most" "I", .fieldLink RX10 86 "PackThreadsModel" "isPacked" "Z", .methodLink RX10 78 yX10_in, .static yX10_in, .initialized RX10, .code yX10_in cX10_in 3 (some .boolean)] ++ wsX100)
def wsX10_plant : List Cond := .code yX10_plant cX10_plant 5 (some .int) :: ([.fieldLink RX10 82 "PackThreadsModel" "isBegun" "Z", .fieldLink RX10 26 "PackThreadsModel" "plantKind" "[I", .fieldLink RX10 29 "PackThreadsModel" "plantStep" "[I", .fieldLink RX10 32 "PackThreadsModel" "plantTwice" "[Z", .methodLink RX10 78 yX10_in, .static yX10_in, .initialized RX10, .code yX10_in cX10_in 3 (some .boolean)] ++ wsX100)
def wsX10_many : List Cond := .code yX10_many cX10_many 1 (some .int) :: ([.fieldLink RX10 75 "PackThreadsModel" "size" "I", .fieldLink RX10 13 "PackThreadsModel" "blockSize" "I"] ++ wsX100)
def wsX10_lengthOf : List Cond := .code yX10_lengthOf cX10_lengthOf 3 (some .int) :: ([.fieldLink RX10 75 "PackThreadsModel" "size" "I", .fieldLink RX10 13 "PackThreadsModel" "blockSize" "I"] ++ wsX100)
def wsX10_alike : List Cond := .code yX10_alike cX10_alike 5 (some .int) :: ([.fieldLink RX10 7 "PackThreadsModel" "text" "[I"] ++ wsX100)
def wsX10_lay : List Cond := .code yX10_lay cX10_lay 2 none :: ([.fieldLink RX10 36 "PackThreadsModel" "pack" "[I", .fieldLink RX10 89 "PackThreadsModel" "packed" "I"] ++ wsX100)
def wsX10_plainTo : List Cond := .code yX10_plainTo cX10_plainTo 4 none :: ([.fieldLink RX10 7 "PackThreadsModel" "text" "[I", .methodLink RX10 112 yX10_lay, .instanceMethod yX10_lay, .selects RX10 yX10_lay yX10_lay, .initialized RX10, .code yX10_lay cX10_lay 2 none, .fieldLink RX10 36 "PackThreadsModel" "pack" "[I", .fieldLink RX10 89 "PackThreadsModel" "packed" "I"] ++ wsX100)
def wsX10_packOne_r1 : List Cond := [Cond.fieldLink RX10 13 "PackThreadsModel" "blockSize" "I", Cond.fieldLink RX10 42 "PackThreadsModel" "tokens" "[I", Cond.fieldLink RX10 17 "PackThreadsModel" "window" "I", Cond.fieldLink RX10 39 "PackThreadsModel" "packEnd" "[I", Cond.fieldLink RX10 89 "PackThreadsModel" "packed" "I", Cond.methodLink RX10 100 yX10_lengthOf, Cond.instanceMethod yX10_lengthOf, Cond.selects RX10 yX10_lengthOf yX10_lengthOf, Cond.initialized RX10, Cond.code yX10_lengthOf cX10_lengthOf 3 (some .int), Cond.fieldLink RX10 75 "PackThreadsModel" "size" "I", Cond.methodLink RX10 104 yX10_alike, Cond.instanceMethod yX10_alike, Cond.selects RX10 yX10_alike yX10_alike, Cond.code yX10_alike cX10_alike 5 (some .int), Cond.fieldLink RX10 7 "PackThreadsModel" "text" "[I", Cond.methodLink RX10 108 yX10_plainTo, Cond.instanceMethod yX10_plainTo, Cond.selects RX10 yX10_plainTo yX10_plainTo, Cond.code yX10_plainTo cX10_plainTo 4 none, Cond.methodLink RX10 112 yX10_lay, Cond.instanceMethod yX10_lay, Cond.selects RX10 yX10_lay yX10_lay, Cond.code yX10_lay cX10_lay 2 none]
def wsX10_packOne_r2 : List Cond := [Cond.fieldLink RX10 36 "PackThreadsModel" "pack" "[I"]
def wsX10_packOne : List Cond := .code yX10_packOne cX10_packOne 9 none :: ((wsX10_packOne_r1 ++ wsX10_packOne_r2) ++ wsX100)
def wsX10_packAll_r1 : List Cond := [Cond.fieldLink RX10 86 "PackThreadsModel" "isPacked" "Z", Cond.fieldLink RX10 89 "PackThreadsModel" "packed" "I", Cond.methodLink RX10 92 yX10_many, Cond.instanceMethod yX10_many, Cond.selects RX10 yX10_many yX10_many, Cond.initialized RX10, Cond.code yX10_many cX10_many 1 (some .int), Cond.fieldLink RX10 75 "PackThreadsModel" "size" "I", Cond.fieldLink RX10 13 "PackThreadsModel" "blockSize" "I", Cond.methodLink RX10 96 yX10_packOne, Cond.instanceMethod yX10_packOne, Cond.selects RX10 yX10_packOne yX10_packOne, Cond.code yX10_packOne cX10_packOne 9 none, Cond.fieldLink RX10 42 "PackThreadsModel" "tokens" "[I", Cond.fieldLink RX10 17 "PackThreadsModel" "window" "I", Cond.fieldLink RX10 39 "PackThreadsModel" "packEnd" "[I", Cond.methodLink RX10 100 yX10_lengthOf, Cond.instanceMethod yX10_lengthOf, Cond.selects RX10 yX10_lengthOf yX10_lengthOf, Cond.code yX10_lengthOf cX10_lengthOf 3 (some .int), Cond.methodLink RX10 104 yX10_alike, Cond.instanceMethod yX10_alike, Cond.selects RX10 yX10_alike yX10_alike, Cond.code yX10_alike cX10_alike 5 (some .int)]
def wsX10_packAll_r2 : List Cond := [Cond.fieldLink RX10 7 "PackThreadsModel" "text" "[I", Cond.methodLink RX10 108 yX10_plainTo, Cond.instanceMethod yX10_plainTo, Cond.selects RX10 yX10_plainTo yX10_plainTo, Cond.code yX10_plainTo cX10_plainTo 4 none, Cond.methodLink RX10 112 yX10_lay, Cond.instanceMethod yX10_lay, Cond.selects RX10 yX10_lay yX10_lay, Cond.code yX10_lay cX10_lay 2 none, Cond.fieldLink RX10 36 "PackThreadsModel" "pack" "[I"]
def wsX10_packAll : List Cond := .code yX10_packAll cX10_packAll 2 none :: ((wsX10_packAll_r1 ++ wsX10_packAll_r2) ++ wsX100)
def wsX10_plain_r1 : List Cond := [Cond.fieldLink RX10 89 "PackThreadsModel" "packed" "I", Cond.fieldLink RX10 36 "PackThreadsModel" "pack" "[I", Cond.methodLink RX10 115 yX10_packAll, Cond.instanceMethod yX10_packAll, Cond.selects RX10 yX10_packAll yX10_packAll, Cond.initialized RX10, Cond.code yX10_packAll cX10_packAll 2 none, Cond.fieldLink RX10 86 "PackThreadsModel" "isPacked" "Z", Cond.methodLink RX10 92 yX10_many, Cond.instanceMethod yX10_many, Cond.selects RX10 yX10_many yX10_many, Cond.code yX10_many cX10_many 1 (some .int), Cond.fieldLink RX10 75 "PackThreadsModel" "size" "I", Cond.fieldLink RX10 13 "PackThreadsModel" "blockSize" "I", Cond.methodLink RX10 96 yX10_packOne, Cond.instanceMethod yX10_packOne, Cond.selects RX10 yX10_packOne yX10_packOne, Cond.code yX10_packOne cX10_packOne 9 none, Cond.fieldLink RX10 42 "PackThreadsModel" "tokens" "[I", Cond.fieldLink RX10 17 "PackThreadsModel" "window" "I", Cond.fieldLink RX10 39 "PackThreadsModel" "packEnd" "[I", Cond.methodLink RX10 100 yX10_lengthOf, Cond.instanceMethod yX10_lengthOf, Cond.selects RX10 yX10_lengthOf yX10_lengthOf]
def wsX10_plain_r2 : List Cond := [Cond.code yX10_lengthOf cX10_lengthOf 3 (some .int), Cond.methodLink RX10 104 yX10_alike, Cond.instanceMethod yX10_alike, Cond.selects RX10 yX10_alike yX10_alike, Cond.code yX10_alike cX10_alike 5 (some .int), Cond.fieldLink RX10 7 "PackThreadsModel" "text" "[I", Cond.methodLink RX10 108 yX10_plainTo, Cond.instanceMethod yX10_plainTo, Cond.selects RX10 yX10_plainTo yX10_plainTo, Cond.code yX10_plainTo cX10_plainTo 4 none, Cond.methodLink RX10 112 yX10_lay, Cond.instanceMethod yX10_lay, Cond.selects RX10 yX10_lay yX10_lay, Cond.code yX10_lay cX10_lay 2 none, Cond.methodLink RX10 78 yX10_in, Cond.static yX10_in, Cond.code yX10_in cX10_in 3 (some .boolean)]
def wsX10_plain : List Cond := .code yX10_plain cX10_plain 2 (some .int) :: ((wsX10_plain_r1 ++ wsX10_plain_r2) ++ wsX100)
def wsX10_begin_r1 : List Cond := [Cond.fieldLink RX10 82 "PackThreadsModel" "isBegun" "Z", Cond.fieldLink RX10 118 "PackThreadsModel" "threads" "I", Cond.fieldLink RX10 121 "PackThreadsModel" "blocks" "I", Cond.fieldLink RX10 45 "PackThreadsModel" "state" "[I", Cond.fieldLink RX10 48 "PackThreadsModel" "block" "[I", Cond.fieldLink RX10 51 "PackThreadsModel" "step" "[I", Cond.fieldLink RX10 54 "PackThreadsModel" "made" "[I", Cond.fieldLink RX10 57 "PackThreadsModel" "ended" "[I", Cond.fieldLink RX10 60 "PackThreadsModel" "isInterrupted" "[Z", Cond.fieldLink RX10 63 "PackThreadsModel" "hasFailed" "[Z", Cond.fieldLink RX10 69 "PackThreadsModel" "inRow" "[Z", Cond.fieldLink RX10 124 "PackThreadsModel" "latest" "I", Cond.fieldLink RX10 127 "PackThreadsModel" "never" "I", Cond.fieldLink RX10 130 "PackThreadsModel" "againMany" "I", Cond.fieldLink RX10 133 "PackThreadsModel" "rowMany" "I", Cond.fieldLink RX10 136 "PackThreadsModel" "joined" "I", Cond.fieldLink RX10 20 "PackThreadsModel" "cells" "I", Cond.fieldLink RX10 139 "PackThreadsModel" "left" "I", Cond.fieldLink RX10 142 "PackThreadsModel" "lineMany" "I", Cond.fieldLink RX10 145 "PackThreadsModel" "stopBlock" "I", Cond.fieldLink RX10 148 "PackThreadsModel" "stopKind" "I", Cond.fieldLink RX10 151 "PackThreadsModel" "failures" "I", Cond.fieldLink RX10 154 "PackThreadsModel" "turns" "I", Cond.methodLink RX10 78 yX10_in]
def wsX10_begin_r2 : List Cond := [Cond.static yX10_in, Cond.initialized RX10, Cond.code yX10_in cX10_in 3 (some .boolean), Cond.methodLink RX10 115 yX10_packAll, Cond.instanceMethod yX10_packAll, Cond.selects RX10 yX10_packAll yX10_packAll, Cond.code yX10_packAll cX10_packAll 2 none, Cond.fieldLink RX10 86 "PackThreadsModel" "isPacked" "Z", Cond.fieldLink RX10 89 "PackThreadsModel" "packed" "I", Cond.methodLink RX10 92 yX10_many, Cond.instanceMethod yX10_many, Cond.selects RX10 yX10_many yX10_many, Cond.code yX10_many cX10_many 1 (some .int), Cond.fieldLink RX10 75 "PackThreadsModel" "size" "I", Cond.fieldLink RX10 13 "PackThreadsModel" "blockSize" "I", Cond.methodLink RX10 96 yX10_packOne, Cond.instanceMethod yX10_packOne, Cond.selects RX10 yX10_packOne yX10_packOne, Cond.code yX10_packOne cX10_packOne 9 none, Cond.fieldLink RX10 42 "PackThreadsModel" "tokens" "[I", Cond.fieldLink RX10 17 "PackThreadsModel" "window" "I", Cond.fieldLink RX10 39 "PackThreadsModel" "packEnd" "[I", Cond.methodLink RX10 100 yX10_lengthOf, Cond.instanceMethod yX10_lengthOf]
def wsX10_begin_r3 : List Cond := [Cond.selects RX10 yX10_lengthOf yX10_lengthOf, Cond.code yX10_lengthOf cX10_lengthOf 3 (some .int), Cond.methodLink RX10 104 yX10_alike, Cond.instanceMethod yX10_alike, Cond.selects RX10 yX10_alike yX10_alike, Cond.code yX10_alike cX10_alike 5 (some .int), Cond.fieldLink RX10 7 "PackThreadsModel" "text" "[I", Cond.methodLink RX10 108 yX10_plainTo, Cond.instanceMethod yX10_plainTo, Cond.selects RX10 yX10_plainTo yX10_plainTo, Cond.code yX10_plainTo cX10_plainTo 4 none, Cond.methodLink RX10 112 yX10_lay, Cond.instanceMethod yX10_lay, Cond.selects RX10 yX10_lay yX10_lay, Cond.code yX10_lay cX10_lay 2 none, Cond.fieldLink RX10 36 "PackThreadsModel" "pack" "[I"]
def wsX10_begin : List Cond := .code yX10_begin cX10_begin 3 (some .int) :: ((wsX10_begin_r1 ++ (wsX10_begin_r2 ++ wsX10_begin_r3)) ++ wsX100)
def wsX10_isStopped : List Cond := .code yX10_isStopped cX10_isStopped 1 (some .boolean) :: ([.fieldLink RX10 148 "PackThreadsModel" "stopKind" "I"] ++ wsX100)
def wsX10_ends : List Cond := .code yX10_ends cX10_ends 2 none :: ([.fieldLink RX10 45 "PackThreadsModel" "state" "[I", .fieldLink RX10 48 "PackThreadsModel" "block" "[I", .fieldLink RX10 57 "PackThreadsModel" "ended" "[I"] ++ wsX100)
def wsX10_works : List Cond := .code yX10_works cX10_works 2 none :: ([.fieldLink RX10 139 "PackThreadsModel" "left" "I", .fieldLink RX10 48 "PackThreadsModel" "block" "[I", .fieldLink RX10 45 "PackThreadsModel" "state" "[I", .fieldLink RX10 51 "PackThreadsModel" "step" "[I", .methodLink RX10 100 yX10_lengthOf, .instanceMethod yX10_lengthOf, .selects RX10 yX10_lengthOf yX10_lengthOf, .initialized RX10, .code yX10_lengthOf cX10_lengthOf 3 (some .int), .fieldLink RX10 75 "PackThreadsModel" "size" "I", .fieldLink RX10 13 "PackThreadsModel" "blockSize" "I"] ++ wsX100)
def wsX10_takes : List Cond := .code yX10_takes cX10_takes 3 none :: ([.fieldLink RX10 48 "PackThreadsModel" "block" "[I", .fieldLink RX10 142 "PackThreadsModel" "lineMany" "I", .fieldLink RX10 139 "PackThreadsModel" "left" "I", .fieldLink RX10 45 "PackThreadsModel" "state" "[I", .fieldLink RX10 72 "PackThreadsModel" "line" "[I", .methodLink RX10 100 yX10_lengthOf, .instanceMethod yX10_lengthOf, .selects RX10 yX10_lengthOf yX10_lengthOf, .initialized RX10, .code yX10_lengthOf cX10_lengthOf 3 (some .int), .fieldLink RX10 75 "PackThreadsModel" "size" "I", .fieldLink RX10 13 "PackThreadsModel" "blockSize" "I", .methodLink RX10 157 yX10_works, .instanceMethod yX10_works, .selects RX10 yX10_works yX10_works, .code yX10_works cX10_works 2 none, .fieldLink RX10 51 "PackThreadsModel" "step" "[I"] ++ wsX100)
def wsX10_leaves : List Cond := .code yX10_leaves cX10_leaves 4 none :: ([.fieldLink RX10 142 "PackThreadsModel" "lineMany" "I", .fieldLink RX10 72 "PackThreadsModel" "line" "[I"] ++ wsX100)
def wsX10_givesBack : List Cond := .code yX10_givesBack cX10_givesBack 3 none :: ([.fieldLink RX10 139 "PackThreadsModel" "left" "I", .fieldLink RX10 142 "PackThreadsModel" "lineMany" "I", .fieldLink RX10 48 "PackThreadsModel" "block" "[I", .fieldLink RX10 72 "PackThreadsModel" "line" "[I", .methodLink RX10 100 yX10_lengthOf, .instanceMethod yX10_lengthOf, .selects RX10 yX10_lengthOf yX10_lengthOf, .initialized RX10, .code yX10_lengthOf cX10_lengthOf 3 (some .int), .fieldLink RX10 75 "PackThreadsModel" "size" "I", .fieldLink RX10 13 "PackThreadsModel" "blockSize" "I", .methodLink RX10 160 yX10_leaves, .instanceMethod yX10_leaves, .selects RX10 yX10_leaves yX10_leaves, .code yX10_leaves cX10_leaves 4 none, .methodLink RX10 157 yX10_works, .instanceMethod yX10_works, .selects RX10 yX10_works yX10_works, .code yX10_works cX10_works 2 none, .fieldLink RX10 45 "PackThreadsModel" "state" "[I", .fieldLink RX10 51 "PackThreadsModel" "step" "[I"] ++ wsX100)
def wsX10_isSome : List Cond := .code yX10_isSome cX10_isSome 5 (some .boolean) :: ([.fieldLink RX10 118 "PackThreadsModel" "threads" "I", .fieldLink RX10 45 "PackThreadsModel" "state" "[I", .fieldLink RX10 63 "PackThreadsModel" "hasFailed" "[Z", .fieldLink RX10 48 "PackThreadsModel" "block" "[I"] ++ wsX100)
def wsX10_free_r1 : List Cond := [Cond.fieldLink RX10 60 "PackThreadsModel" "isInterrupted" "[Z", Cond.fieldLink RX10 136 "PackThreadsModel" "joined" "I", Cond.fieldLink RX10 121 "PackThreadsModel" "blocks" "I", Cond.fieldLink RX10 130 "PackThreadsModel" "againMany" "I", Cond.fieldLink RX10 66 "PackThreadsModel" "again" "[I", Cond.fieldLink RX10 127 "PackThreadsModel" "never" "I", Cond.methodLink RX10 163 yX10_isStopped, Cond.instanceMethod yX10_isStopped, Cond.selects RX10 yX10_isStopped yX10_isStopped, Cond.initialized RX10, Cond.code yX10_isStopped cX10_isStopped 1 (some .boolean), Cond.fieldLink RX10 148 "PackThreadsModel" "stopKind" "I", Cond.methodLink RX10 167 yX10_ends, Cond.instanceMethod yX10_ends, Cond.selects RX10 yX10_ends yX10_ends, Cond.code yX10_ends cX10_ends 2 none, Cond.fieldLink RX10 45 "PackThreadsModel" "state" "[I", Cond.fieldLink RX10 48 "PackThreadsModel" "block" "[I", Cond.fieldLink RX10 57 "PackThreadsModel" "ended" "[I", Cond.methodLink RX10 170 yX10_isSome, Cond.instanceMethod yX10_isSome, Cond.selects RX10 yX10_isSome yX10_isSome, Cond.code yX10_isSome cX10_isSome 5 (some .boolean), Cond.fieldLink RX10 118 "PackThreadsModel" "threads" "I"]
def wsX10_free_r2 : List Cond := [Cond.fieldLink RX10 63 "PackThreadsModel" "hasFailed" "[Z", Cond.methodLink RX10 174 yX10_takes, Cond.instanceMethod yX10_takes, Cond.selects RX10 yX10_takes yX10_takes, Cond.code yX10_takes cX10_takes 3 none, Cond.fieldLink RX10 142 "PackThreadsModel" "lineMany" "I", Cond.fieldLink RX10 139 "PackThreadsModel" "left" "I", Cond.fieldLink RX10 72 "PackThreadsModel" "line" "[I", Cond.methodLink RX10 100 yX10_lengthOf, Cond.instanceMethod yX10_lengthOf, Cond.selects RX10 yX10_lengthOf yX10_lengthOf, Cond.code yX10_lengthOf cX10_lengthOf 3 (some .int), Cond.fieldLink RX10 75 "PackThreadsModel" "size" "I", Cond.fieldLink RX10 13 "PackThreadsModel" "blockSize" "I", Cond.methodLink RX10 157 yX10_works, Cond.instanceMethod yX10_works, Cond.selects RX10 yX10_works yX10_works, Cond.code yX10_works cX10_works 2 none, Cond.fieldLink RX10 51 "PackThreadsModel" "step" "[I"]
def wsX10_free : List Cond := .code yX10_free cX10_free 4 (some .int) :: ((wsX10_free_r1 ++ wsX10_free_r2) ++ wsX100)
def wsX10_lays : List Cond := .code yX10_lays cX10_lays 3 (some .int) :: ([.fieldLink RX10 48 "PackThreadsModel" "block" "[I", .fieldLink RX10 136 "PackThreadsModel" "joined" "I", .fieldLink RX10 133 "PackThreadsModel" "rowMany" "I", .fieldLink RX10 23 "PackThreadsModel" "most" "I", .fieldLink RX10 69 "PackThreadsModel" "inRow" "[Z", .fieldLink RX10 45 "PackThreadsModel" "state" "[I", .fieldLink RX10 121 "PackThreadsModel" "blocks" "I"] ++ wsX100)
def wsX10_work_r1 : List Cond := [Cond.fieldLink RX10 48 "PackThreadsModel" "block" "[I", Cond.fieldLink RX10 26 "PackThreadsModel" "plantKind" "[I", Cond.fieldLink RX10 29 "PackThreadsModel" "plantStep" "[I", Cond.fieldLink RX10 51 "PackThreadsModel" "step" "[I", Cond.fieldLink RX10 63 "PackThreadsModel" "hasFailed" "[Z", Cond.fieldLink RX10 32 "PackThreadsModel" "plantTwice" "[Z", Cond.fieldLink RX10 151 "PackThreadsModel" "failures" "I", Cond.fieldLink RX10 45 "PackThreadsModel" "state" "[I", Cond.fieldLink RX10 145 "PackThreadsModel" "stopBlock" "I", Cond.fieldLink RX10 148 "PackThreadsModel" "stopKind" "I", Cond.fieldLink RX10 66 "PackThreadsModel" "again" "[I", Cond.fieldLink RX10 130 "PackThreadsModel" "againMany" "I", Cond.fieldLink RX10 42 "PackThreadsModel" "tokens" "[I", Cond.fieldLink RX10 54 "PackThreadsModel" "made" "[I", Cond.methodLink RX10 100 yX10_lengthOf, Cond.instanceMethod yX10_lengthOf, Cond.selects RX10 yX10_lengthOf yX10_lengthOf, Cond.initialized RX10, Cond.code yX10_lengthOf cX10_lengthOf 3 (some .int), Cond.fieldLink RX10 75 "PackThreadsModel" "size" "I", Cond.fieldLink RX10 13 "PackThreadsModel" "blockSize" "I", Cond.methodLink RX10 163 yX10_isStopped, Cond.instanceMethod yX10_isStopped, Cond.selects RX10 yX10_isStopped yX10_isStopped]
def wsX10_work_r2 : List Cond := [Cond.code yX10_isStopped cX10_isStopped 1 (some .boolean), Cond.methodLink RX10 167 yX10_ends, Cond.instanceMethod yX10_ends, Cond.selects RX10 yX10_ends yX10_ends, Cond.code yX10_ends cX10_ends 2 none, Cond.fieldLink RX10 57 "PackThreadsModel" "ended" "[I", Cond.methodLink RX10 177 yX10_givesBack, Cond.instanceMethod yX10_givesBack, Cond.selects RX10 yX10_givesBack yX10_givesBack, Cond.code yX10_givesBack cX10_givesBack 3 none, Cond.fieldLink RX10 139 "PackThreadsModel" "left" "I", Cond.fieldLink RX10 142 "PackThreadsModel" "lineMany" "I", Cond.fieldLink RX10 72 "PackThreadsModel" "line" "[I", Cond.methodLink RX10 160 yX10_leaves, Cond.instanceMethod yX10_leaves, Cond.selects RX10 yX10_leaves yX10_leaves, Cond.code yX10_leaves cX10_leaves 4 none, Cond.methodLink RX10 157 yX10_works, Cond.instanceMethod yX10_works, Cond.selects RX10 yX10_works yX10_works, Cond.code yX10_works cX10_works 2 none, Cond.methodLink RX10 180 yX10_lays, Cond.instanceMethod yX10_lays, Cond.selects RX10 yX10_lays yX10_lays]
def wsX10_work_r3 : List Cond := [Cond.code yX10_lays cX10_lays 3 (some .int), Cond.fieldLink RX10 136 "PackThreadsModel" "joined" "I", Cond.fieldLink RX10 133 "PackThreadsModel" "rowMany" "I", Cond.fieldLink RX10 23 "PackThreadsModel" "most" "I", Cond.fieldLink RX10 69 "PackThreadsModel" "inRow" "[Z", Cond.fieldLink RX10 121 "PackThreadsModel" "blocks" "I"]
def wsX10_work : List Cond := .code yX10_work cX10_work 5 (some .int) :: ((wsX10_work_r1 ++ (wsX10_work_r2 ++ wsX10_work_r3)) ++ wsX100)
def wsX10_act_r1 : List Cond := [Cond.fieldLink RX10 124 "PackThreadsModel" "latest" "I", Cond.fieldLink RX10 45 "PackThreadsModel" "state" "[I", Cond.fieldLink RX10 154 "PackThreadsModel" "turns" "I", Cond.methodLink RX10 183 yX10_free, Cond.instanceMethod yX10_free, Cond.selects RX10 yX10_free yX10_free, Cond.initialized RX10, Cond.code yX10_free cX10_free 4 (some .int), Cond.fieldLink RX10 60 "PackThreadsModel" "isInterrupted" "[Z", Cond.fieldLink RX10 136 "PackThreadsModel" "joined" "I", Cond.fieldLink RX10 121 "PackThreadsModel" "blocks" "I", Cond.fieldLink RX10 130 "PackThreadsModel" "againMany" "I", Cond.fieldLink RX10 66 "PackThreadsModel" "again" "[I", Cond.fieldLink RX10 127 "PackThreadsModel" "never" "I", Cond.methodLink RX10 163 yX10_isStopped, Cond.instanceMethod yX10_isStopped, Cond.selects RX10 yX10_isStopped yX10_isStopped, Cond.code yX10_isStopped cX10_isStopped 1 (some .boolean), Cond.fieldLink RX10 148 "PackThreadsModel" "stopKind" "I", Cond.methodLink RX10 167 yX10_ends, Cond.instanceMethod yX10_ends, Cond.selects RX10 yX10_ends yX10_ends, Cond.code yX10_ends cX10_ends 2 none, Cond.fieldLink RX10 48 "PackThreadsModel" "block" "[I"]
def wsX10_act_r2 : List Cond := [Cond.fieldLink RX10 57 "PackThreadsModel" "ended" "[I", Cond.methodLink RX10 170 yX10_isSome, Cond.instanceMethod yX10_isSome, Cond.selects RX10 yX10_isSome yX10_isSome, Cond.code yX10_isSome cX10_isSome 5 (some .boolean), Cond.fieldLink RX10 118 "PackThreadsModel" "threads" "I", Cond.fieldLink RX10 63 "PackThreadsModel" "hasFailed" "[Z", Cond.methodLink RX10 174 yX10_takes, Cond.instanceMethod yX10_takes, Cond.selects RX10 yX10_takes yX10_takes, Cond.code yX10_takes cX10_takes 3 none, Cond.fieldLink RX10 142 "PackThreadsModel" "lineMany" "I", Cond.fieldLink RX10 139 "PackThreadsModel" "left" "I", Cond.fieldLink RX10 72 "PackThreadsModel" "line" "[I", Cond.methodLink RX10 100 yX10_lengthOf, Cond.instanceMethod yX10_lengthOf, Cond.selects RX10 yX10_lengthOf yX10_lengthOf, Cond.code yX10_lengthOf cX10_lengthOf 3 (some .int), Cond.fieldLink RX10 75 "PackThreadsModel" "size" "I", Cond.fieldLink RX10 13 "PackThreadsModel" "blockSize" "I", Cond.methodLink RX10 157 yX10_works, Cond.instanceMethod yX10_works, Cond.selects RX10 yX10_works yX10_works, Cond.code yX10_works cX10_works 2 none]
def wsX10_act_r3 : List Cond := [Cond.fieldLink RX10 51 "PackThreadsModel" "step" "[I", Cond.methodLink RX10 186 yX10_work, Cond.instanceMethod yX10_work, Cond.selects RX10 yX10_work yX10_work, Cond.code yX10_work cX10_work 5 (some .int), Cond.fieldLink RX10 26 "PackThreadsModel" "plantKind" "[I", Cond.fieldLink RX10 29 "PackThreadsModel" "plantStep" "[I", Cond.fieldLink RX10 32 "PackThreadsModel" "plantTwice" "[Z", Cond.fieldLink RX10 151 "PackThreadsModel" "failures" "I", Cond.fieldLink RX10 145 "PackThreadsModel" "stopBlock" "I", Cond.fieldLink RX10 42 "PackThreadsModel" "tokens" "[I", Cond.fieldLink RX10 54 "PackThreadsModel" "made" "[I", Cond.methodLink RX10 177 yX10_givesBack, Cond.instanceMethod yX10_givesBack, Cond.selects RX10 yX10_givesBack yX10_givesBack, Cond.code yX10_givesBack cX10_givesBack 3 none, Cond.methodLink RX10 160 yX10_leaves, Cond.instanceMethod yX10_leaves, Cond.selects RX10 yX10_leaves yX10_leaves, Cond.code yX10_leaves cX10_leaves 4 none, Cond.methodLink RX10 180 yX10_lays, Cond.instanceMethod yX10_lays, Cond.selects RX10 yX10_lays yX10_lays, Cond.code yX10_lays cX10_lays 3 (some .int)]
def wsX10_act_r4 : List Cond := [Cond.fieldLink RX10 133 "PackThreadsModel" "rowMany" "I", Cond.fieldLink RX10 23 "PackThreadsModel" "most" "I", Cond.fieldLink RX10 69 "PackThreadsModel" "inRow" "[Z"]
def wsX10_act : List Cond := .code yX10_act cX10_act 3 (some .int) :: ((wsX10_act_r1 ++ (wsX10_act_r2 ++ (wsX10_act_r3 ++ wsX10_act_r4))) ++ wsX100)
def wsX10_isThread : List Cond := .code yX10_isThread cX10_isThread 2 (some .boolean) :: ([.fieldLink RX10 82 "PackThreadsModel" "isBegun" "Z", .fieldLink RX10 118 "PackThreadsModel" "threads" "I", .methodLink RX10 78 yX10_in, .static yX10_in, .initialized RX10, .code yX10_in cX10_in 3 (some .boolean)] ++ wsX100)
def wsX10_turn_r1 : List Cond := [Cond.fieldLink RX10 82 "PackThreadsModel" "isBegun" "Z", Cond.methodLink RX10 189 yX10_isThread, Cond.instanceMethod yX10_isThread, Cond.selects RX10 yX10_isThread yX10_isThread, Cond.initialized RX10, Cond.code yX10_isThread cX10_isThread 2 (some .boolean), Cond.fieldLink RX10 118 "PackThreadsModel" "threads" "I", Cond.methodLink RX10 78 yX10_in, Cond.static yX10_in, Cond.code yX10_in cX10_in 3 (some .boolean), Cond.methodLink RX10 193 yX10_act, Cond.instanceMethod yX10_act, Cond.selects RX10 yX10_act yX10_act, Cond.code yX10_act cX10_act 3 (some .int), Cond.fieldLink RX10 124 "PackThreadsModel" "latest" "I", Cond.fieldLink RX10 45 "PackThreadsModel" "state" "[I", Cond.fieldLink RX10 154 "PackThreadsModel" "turns" "I", Cond.methodLink RX10 183 yX10_free, Cond.instanceMethod yX10_free, Cond.selects RX10 yX10_free yX10_free, Cond.code yX10_free cX10_free 4 (some .int), Cond.fieldLink RX10 60 "PackThreadsModel" "isInterrupted" "[Z", Cond.fieldLink RX10 136 "PackThreadsModel" "joined" "I", Cond.fieldLink RX10 121 "PackThreadsModel" "blocks" "I"]
def wsX10_turn_r2 : List Cond := [Cond.fieldLink RX10 130 "PackThreadsModel" "againMany" "I", Cond.fieldLink RX10 66 "PackThreadsModel" "again" "[I", Cond.fieldLink RX10 127 "PackThreadsModel" "never" "I", Cond.methodLink RX10 163 yX10_isStopped, Cond.instanceMethod yX10_isStopped, Cond.selects RX10 yX10_isStopped yX10_isStopped, Cond.code yX10_isStopped cX10_isStopped 1 (some .boolean), Cond.fieldLink RX10 148 "PackThreadsModel" "stopKind" "I", Cond.methodLink RX10 167 yX10_ends, Cond.instanceMethod yX10_ends, Cond.selects RX10 yX10_ends yX10_ends, Cond.code yX10_ends cX10_ends 2 none, Cond.fieldLink RX10 48 "PackThreadsModel" "block" "[I", Cond.fieldLink RX10 57 "PackThreadsModel" "ended" "[I", Cond.methodLink RX10 170 yX10_isSome, Cond.instanceMethod yX10_isSome, Cond.selects RX10 yX10_isSome yX10_isSome, Cond.code yX10_isSome cX10_isSome 5 (some .boolean), Cond.fieldLink RX10 63 "PackThreadsModel" "hasFailed" "[Z", Cond.methodLink RX10 174 yX10_takes, Cond.instanceMethod yX10_takes, Cond.selects RX10 yX10_takes yX10_takes, Cond.code yX10_takes cX10_takes 3 none, Cond.fieldLink RX10 142 "PackThreadsModel" "lineMany" "I"]
def wsX10_turn_r3 : List Cond := [Cond.fieldLink RX10 139 "PackThreadsModel" "left" "I", Cond.fieldLink RX10 72 "PackThreadsModel" "line" "[I", Cond.methodLink RX10 100 yX10_lengthOf, Cond.instanceMethod yX10_lengthOf, Cond.selects RX10 yX10_lengthOf yX10_lengthOf, Cond.code yX10_lengthOf cX10_lengthOf 3 (some .int), Cond.fieldLink RX10 75 "PackThreadsModel" "size" "I", Cond.fieldLink RX10 13 "PackThreadsModel" "blockSize" "I", Cond.methodLink RX10 157 yX10_works, Cond.instanceMethod yX10_works, Cond.selects RX10 yX10_works yX10_works, Cond.code yX10_works cX10_works 2 none, Cond.fieldLink RX10 51 "PackThreadsModel" "step" "[I", Cond.methodLink RX10 186 yX10_work, Cond.instanceMethod yX10_work, Cond.selects RX10 yX10_work yX10_work, Cond.code yX10_work cX10_work 5 (some .int), Cond.fieldLink RX10 26 "PackThreadsModel" "plantKind" "[I", Cond.fieldLink RX10 29 "PackThreadsModel" "plantStep" "[I", Cond.fieldLink RX10 32 "PackThreadsModel" "plantTwice" "[Z", Cond.fieldLink RX10 151 "PackThreadsModel" "failures" "I", Cond.fieldLink RX10 145 "PackThreadsModel" "stopBlock" "I", Cond.fieldLink RX10 42 "PackThreadsModel" "tokens" "[I", Cond.fieldLink RX10 54 "PackThreadsModel" "made" "[I"]
def wsX10_turn_r4 : List Cond := [Cond.methodLink RX10 177 yX10_givesBack, Cond.instanceMethod yX10_givesBack, Cond.selects RX10 yX10_givesBack yX10_givesBack, Cond.code yX10_givesBack cX10_givesBack 3 none, Cond.methodLink RX10 160 yX10_leaves, Cond.instanceMethod yX10_leaves, Cond.selects RX10 yX10_leaves yX10_leaves, Cond.code yX10_leaves cX10_leaves 4 none, Cond.methodLink RX10 180 yX10_lays, Cond.instanceMethod yX10_lays, Cond.selects RX10 yX10_lays yX10_lays, Cond.code yX10_lays cX10_lays 3 (some .int), Cond.fieldLink RX10 133 "PackThreadsModel" "rowMany" "I", Cond.fieldLink RX10 23 "PackThreadsModel" "most" "I", Cond.fieldLink RX10 69 "PackThreadsModel" "inRow" "[Z"]
def wsX10_turn : List Cond := .code yX10_turn cX10_turn 2 (some .int) :: ((wsX10_turn_r1 ++ (wsX10_turn_r2 ++ (wsX10_turn_r3 ++ wsX10_turn_r4))) ++ wsX100)
def wsX10_isOver : List Cond := .code yX10_isOver cX10_isOver 3 (some .boolean) :: ([.fieldLink RX10 118 "PackThreadsModel" "threads" "I", .fieldLink RX10 45 "PackThreadsModel" "state" "[I"] ++ wsX100)
def wsX10_run_r1 : List Cond := [Cond.fieldLink RX10 82 "PackThreadsModel" "isBegun" "Z", Cond.fieldLink RX10 124 "PackThreadsModel" "latest" "I", Cond.fieldLink RX10 118 "PackThreadsModel" "threads" "I", Cond.methodLink RX10 78 yX10_in, Cond.static yX10_in, Cond.initialized RX10, Cond.code yX10_in cX10_in 3 (some .boolean), Cond.methodLink RX10 196 yX10_isOver, Cond.instanceMethod yX10_isOver, Cond.selects RX10 yX10_isOver yX10_isOver, Cond.code yX10_isOver cX10_isOver 3 (some .boolean), Cond.fieldLink RX10 45 "PackThreadsModel" "state" "[I", Cond.methodLink RX10 193 yX10_act, Cond.instanceMethod yX10_act, Cond.selects RX10 yX10_act yX10_act, Cond.code yX10_act cX10_act 3 (some .int), Cond.fieldLink RX10 154 "PackThreadsModel" "turns" "I", Cond.methodLink RX10 183 yX10_free, Cond.instanceMethod yX10_free, Cond.selects RX10 yX10_free yX10_free, Cond.code yX10_free cX10_free 4 (some .int), Cond.fieldLink RX10 60 "PackThreadsModel" "isInterrupted" "[Z", Cond.fieldLink RX10 136 "PackThreadsModel" "joined" "I", Cond.fieldLink RX10 121 "PackThreadsModel" "blocks" "I"]
def wsX10_run_r2 : List Cond := [Cond.fieldLink RX10 130 "PackThreadsModel" "againMany" "I", Cond.fieldLink RX10 66 "PackThreadsModel" "again" "[I", Cond.fieldLink RX10 127 "PackThreadsModel" "never" "I", Cond.methodLink RX10 163 yX10_isStopped, Cond.instanceMethod yX10_isStopped, Cond.selects RX10 yX10_isStopped yX10_isStopped, Cond.code yX10_isStopped cX10_isStopped 1 (some .boolean), Cond.fieldLink RX10 148 "PackThreadsModel" "stopKind" "I", Cond.methodLink RX10 167 yX10_ends, Cond.instanceMethod yX10_ends, Cond.selects RX10 yX10_ends yX10_ends, Cond.code yX10_ends cX10_ends 2 none, Cond.fieldLink RX10 48 "PackThreadsModel" "block" "[I", Cond.fieldLink RX10 57 "PackThreadsModel" "ended" "[I", Cond.methodLink RX10 170 yX10_isSome, Cond.instanceMethod yX10_isSome, Cond.selects RX10 yX10_isSome yX10_isSome, Cond.code yX10_isSome cX10_isSome 5 (some .boolean), Cond.fieldLink RX10 63 "PackThreadsModel" "hasFailed" "[Z", Cond.methodLink RX10 174 yX10_takes, Cond.instanceMethod yX10_takes, Cond.selects RX10 yX10_takes yX10_takes, Cond.code yX10_takes cX10_takes 3 none, Cond.fieldLink RX10 142 "PackThreadsModel" "lineMany" "I"]
def wsX10_run_r3 : List Cond := [Cond.fieldLink RX10 139 "PackThreadsModel" "left" "I", Cond.fieldLink RX10 72 "PackThreadsModel" "line" "[I", Cond.methodLink RX10 100 yX10_lengthOf, Cond.instanceMethod yX10_lengthOf, Cond.selects RX10 yX10_lengthOf yX10_lengthOf, Cond.code yX10_lengthOf cX10_lengthOf 3 (some .int), Cond.fieldLink RX10 75 "PackThreadsModel" "size" "I", Cond.fieldLink RX10 13 "PackThreadsModel" "blockSize" "I", Cond.methodLink RX10 157 yX10_works, Cond.instanceMethod yX10_works, Cond.selects RX10 yX10_works yX10_works, Cond.code yX10_works cX10_works 2 none, Cond.fieldLink RX10 51 "PackThreadsModel" "step" "[I", Cond.methodLink RX10 186 yX10_work, Cond.instanceMethod yX10_work, Cond.selects RX10 yX10_work yX10_work, Cond.code yX10_work cX10_work 5 (some .int), Cond.fieldLink RX10 26 "PackThreadsModel" "plantKind" "[I", Cond.fieldLink RX10 29 "PackThreadsModel" "plantStep" "[I", Cond.fieldLink RX10 32 "PackThreadsModel" "plantTwice" "[Z", Cond.fieldLink RX10 151 "PackThreadsModel" "failures" "I", Cond.fieldLink RX10 145 "PackThreadsModel" "stopBlock" "I", Cond.fieldLink RX10 42 "PackThreadsModel" "tokens" "[I", Cond.fieldLink RX10 54 "PackThreadsModel" "made" "[I"]
def wsX10_run_r4 : List Cond := [Cond.methodLink RX10 177 yX10_givesBack, Cond.instanceMethod yX10_givesBack, Cond.selects RX10 yX10_givesBack yX10_givesBack, Cond.code yX10_givesBack cX10_givesBack 3 none, Cond.methodLink RX10 160 yX10_leaves, Cond.instanceMethod yX10_leaves, Cond.selects RX10 yX10_leaves yX10_leaves, Cond.code yX10_leaves cX10_leaves 4 none, Cond.methodLink RX10 180 yX10_lays, Cond.instanceMethod yX10_lays, Cond.selects RX10 yX10_lays yX10_lays, Cond.code yX10_lays cX10_lays 3 (some .int), Cond.fieldLink RX10 133 "PackThreadsModel" "rowMany" "I", Cond.fieldLink RX10 23 "PackThreadsModel" "most" "I", Cond.fieldLink RX10 69 "PackThreadsModel" "inRow" "[Z"]
def wsX10_run : List Cond := .code yX10_run cX10_run 4 (some .int) :: ((wsX10_run_r1 ++ (wsX10_run_r2 ++ (wsX10_run_r3 ++ wsX10_run_r4))) ++ wsX100)
def wsX10_interrupt : List Cond := .code yX10_interrupt cX10_interrupt 2 (some .int) :: ([.fieldLink RX10 82 "PackThreadsModel" "isBegun" "Z", .fieldLink RX10 60 "PackThreadsModel" "isInterrupted" "[Z", .fieldLink RX10 45 "PackThreadsModel" "state" "[I", .methodLink RX10 189 yX10_isThread, .instanceMethod yX10_isThread, .selects RX10 yX10_isThread yX10_isThread, .initialized RX10, .code yX10_isThread cX10_isThread 2 (some .boolean), .fieldLink RX10 118 "PackThreadsModel" "threads" "I", .methodLink RX10 78 yX10_in, .static yX10_in, .code yX10_in cX10_in 3 (some .boolean)] ++ wsX100)
def wsX10_thread : List Cond := .code yX10_thread cX10_thread 3 (some .int) :: ([.fieldLink RX10 82 "PackThreadsModel" "isBegun" "Z", .fieldLink RX10 45 "PackThreadsModel" "state" "[I", .fieldLink RX10 48 "PackThreadsModel" "block" "[I", .fieldLink RX10 51 "PackThreadsModel" "step" "[I", .fieldLink RX10 54 "PackThreadsModel" "made" "[I", .fieldLink RX10 57 "PackThreadsModel" "ended" "[I", .methodLink RX10 189 yX10_isThread, .instanceMethod yX10_isThread, .selects RX10 yX10_isThread yX10_isThread, .initialized RX10, .code yX10_isThread cX10_isThread 2 (some .boolean), .fieldLink RX10 118 "PackThreadsModel" "threads" "I", .methodLink RX10 78 yX10_in, .static yX10_in, .code yX10_in cX10_in 3 (some .boolean)] ++ wsX100)
def wsX10_outSize : List Cond := .code yX10_outSize cX10_outSize 1 (some .int) :: ([.fieldLink RX10 82 "PackThreadsModel" "isBegun" "Z", .fieldLink RX10 136 "PackThreadsModel" "joined" "I", .fieldLink RX10 39 "PackThreadsModel" "packEnd" "[I"] ++ wsX100)
def wsX10_out : List Cond := .code yX10_out cX10_out 2 (some .int) :: ([.fieldLink RX10 36 "PackThreadsModel" "pack" "[I", .methodLink RX10 199 yX10_outSize, .instanceMethod yX10_outSize, .selects RX10 yX10_outSize yX10_outSize, .initialized RX10, .code yX10_outSize cX10_outSize 1 (some .int), .fieldLink RX10 82 "PackThreadsModel" "isBegun" "Z", .fieldLink RX10 136 "PackThreadsModel" "joined" "I", .fieldLink RX10 39 "PackThreadsModel" "packEnd" "[I", .methodLink RX10 78 yX10_in, .static yX10_in, .code yX10_in cX10_in 3 (some .boolean)] ++ wsX100)
def wsX10_told : List Cond := .code yX10_told cX10_told 2 (some .int) :: ([.fieldLink RX10 82 "PackThreadsModel" "isBegun" "Z", .fieldLink RX10 121 "PackThreadsModel" "blocks" "I", .fieldLink RX10 136 "PackThreadsModel" "joined" "I", .fieldLink RX10 139 "PackThreadsModel" "left" "I", .fieldLink RX10 142 "PackThreadsModel" "lineMany" "I", .fieldLink RX10 133 "PackThreadsModel" "rowMany" "I", .fieldLink RX10 145 "PackThreadsModel" "stopBlock" "I", .fieldLink RX10 148 "PackThreadsModel" "stopKind" "I", .fieldLink RX10 151 "PackThreadsModel" "failures" "I", .fieldLink RX10 154 "PackThreadsModel" "turns" "I", .fieldLink RX10 130 "PackThreadsModel" "againMany" "I", .methodLink RX10 78 yX10_in, .static yX10_in, .initialized RX10, .code yX10_in cX10_in 3 (some .boolean), .methodLink RX10 199 yX10_outSize, .instanceMethod yX10_outSize, .selects RX10 yX10_outSize yX10_outSize, .code yX10_outSize cX10_outSize 1 (some .int), .fieldLink RX10 39 "PackThreadsModel" "packEnd" "[I"] ++ wsX100)
def wsX10_waiting : List Cond := .code yX10_waiting cX10_waiting 2 (some .int) :: ([.fieldLink RX10 82 "PackThreadsModel" "isBegun" "Z", .fieldLink RX10 142 "PackThreadsModel" "lineMany" "I", .fieldLink RX10 72 "PackThreadsModel" "line" "[I", .methodLink RX10 78 yX10_in, .static yX10_in, .initialized RX10, .code yX10_in cX10_in 3 (some .boolean)] ++ wsX100)
def wsX10_close : List Cond := .code yX10_close cX10_close 3 (some .int) :: ([.fieldLink RX10 82 "PackThreadsModel" "isBegun" "Z", .fieldLink RX10 142 "PackThreadsModel" "lineMany" "I", .fieldLink RX10 118 "PackThreadsModel" "threads" "I", .fieldLink RX10 45 "PackThreadsModel" "state" "[I", .fieldLink RX10 139 "PackThreadsModel" "left" "I", .fieldLink RX10 48 "PackThreadsModel" "block" "[I", .methodLink RX10 100 yX10_lengthOf, .instanceMethod yX10_lengthOf, .selects RX10 yX10_lengthOf yX10_lengthOf, .initialized RX10, .code yX10_lengthOf cX10_lengthOf 3 (some .int), .fieldLink RX10 75 "PackThreadsModel" "size" "I", .fieldLink RX10 13 "PackThreadsModel" "blockSize" "I", .methodLink RX10 167 yX10_ends, .instanceMethod yX10_ends, .selects RX10 yX10_ends yX10_ends, .code yX10_ends cX10_ends 2 none, .fieldLink RX10 57 "PackThreadsModel" "ended" "[I"] ++ wsX100)
def wsX10_clear : List Cond := .code yX10_clear cX10_clear 3 (some .int) :: ([.fieldLink RX10 75 "PackThreadsModel" "size" "I", .fieldLink RX10 82 "PackThreadsModel" "isBegun" "Z", .fieldLink RX10 86 "PackThreadsModel" "isPacked" "Z", .fieldLink RX10 26 "PackThreadsModel" "plantKind" "[I"] ++ wsX100)
def wsJ9_max_7cf53 : List Cond := .code yJ9_max_7cf53 cJ9_max_7cf53 2 (some .int) :: ([])
def wsJ9_min_7cf53 : List Cond := .code yJ9_min_7cf53 cJ9_min_7cf53 2 (some .int) :: ([])
def wsL_law_r1 : List Cond := [Cond.classLink RL 7 RX9, Cond.instantiable RX9 6, Cond.initialized RX9, Cond.classLink RL 10 RX10, Cond.instantiable RX10 38, Cond.initialized RX10, Cond.methodLink RL 9 yX9_init, Cond.instanceMethod yX9_init, Cond.code yX9_init cX9_init 1 none, Cond.methodLink RX9 3 objectInit, Cond.instanceMethod objectInit, Cond.code objectInit ⟨#[0xb1]⟩ 1 none, Cond.classLink RX9 9 RX7, Cond.instantiable RX7 2, Cond.initialized RX7, Cond.fieldLink RX9 12 "PackThreads" "text" "LPackThreads$Text;", Cond.classLink RX9 16 RX5, Cond.instantiable RX5 4, Cond.initialized RX5, Cond.fieldLink RX9 19 "PackThreads" "settings" "LPackThreads$Settings;", Cond.classLink RX9 23 RX3, Cond.instantiable RX3 3, Cond.initialized RX3, Cond.fieldLink RX9 26 "PackThreads" "plants" "LPackThreads$Plants;"]
def wsL_law_r2 : List Cond := [Cond.classLink RX9 30 RX2, Cond.instantiable RX2 9, Cond.initialized RX2, Cond.fieldLink RX9 35 "PackThreads" "packs" "LPackThreads$Packs;", Cond.classLink RX9 39 RX6, Cond.instantiable RX6 13, Cond.initialized RX6, Cond.fieldLink RX9 44 "PackThreads" "stream" "LPackThreads$Stream;", Cond.fieldLink RX9 48 "PackThreads" "begun" "Z", Cond.instanceMethod yX7_init, Cond.code yX7_init cX7_init 1 none, Cond.methodLink RX7 3 objectInit, Cond.arrayClass .int, Cond.fieldLink RX7 9 "PackThreads$Text" "bytes" "[I", Cond.instanceMethod yX5_init, Cond.code yX5_init cX5_init 1 none, Cond.methodLink RX5 1 objectInit, Cond.fieldLink RX5 7 "PackThreads$Settings" "size" "I", Cond.fieldLink RX5 13 "PackThreads$Settings" "window" "I", Cond.fieldLink RX5 16 "PackThreads$Settings" "cells" "I", Cond.fieldLink RX5 19 "PackThreads$Settings" "rowLimit" "I", Cond.instanceMethod yX3_init, Cond.code yX3_init cX3_init 1 none, Cond.methodLink RX3 3 objectInit]
def wsL_law_r3 : List Cond := [Cond.fieldLink RX3 9 "PackThreads$Plants" "steps" "[I", Cond.fieldLink RX3 15 "PackThreads$Plants" "kinds" "[I", Cond.arrayClass .boolean, Cond.fieldLink RX3 18 "PackThreads$Plants" "forTwice" "[Z", Cond.methodLink RX9 32 yX2_init, Cond.instanceMethod yX2_init, Cond.code yX2_init cX2_init 3 none, Cond.methodLink RX2 3 objectInit, Cond.fieldLink RX2 9 "PackThreads$Packs" "bytes" "[I", Cond.fieldLink RX2 15 "PackThreads$Packs" "ends" "[I", Cond.fieldLink RX2 18 "PackThreads$Packs" "tokens" "[I", Cond.fieldLink RX2 21 "PackThreads$Packs" "text" "LPackThreads$Text;", Cond.fieldLink RX2 25 "PackThreads$Packs" "settings" "LPackThreads$Settings;", Cond.methodLink RX9 41 yX6_init, Cond.instanceMethod yX6_init, Cond.code yX6_init cX6_init 4 none, Cond.methodLink RX6 3 objectInit, Cond.classLink RX6 9 RX8, Cond.fieldLink RX6 11 "PackThreads$Stream" "workers" "[LPackThreads$Worker;", Cond.classLink RX6 17 RX1, Cond.instantiable RX1 3, Cond.initialized RX1, Cond.fieldLink RX6 20 "PackThreads$Stream" "memory" "LPackThreads$Memory;", Cond.classLink RX6 24 RX4]
def wsL_law_r4 : List Cond := [Cond.instantiable RX4 4, Cond.initialized RX4, Cond.fieldLink RX6 27 "PackThreads$Stream" "row" "LPackThreads$Row;", Cond.classLink RX6 31 RX0, Cond.instantiable RX0 3, Cond.initialized RX0, Cond.fieldLink RX6 34 "PackThreads$Stream" "failed" "LPackThreads$Failed;", Cond.fieldLink RX6 38 "PackThreads$Stream" "packs" "LPackThreads$Packs;", Cond.fieldLink RX6 42 "PackThreads$Stream" "plants" "LPackThreads$Plants;", Cond.instantiable RX8 8, Cond.initialized RX8, Cond.instanceMethod yX1_init, Cond.code yX1_init cX1_init 1 none, Cond.methodLink RX1 3 objectInit, Cond.classLink RX1 9 RX8, Cond.fieldLink RX1 11 "PackThreads$Memory" "line" "[LPackThreads$Worker;", Cond.instanceMethod yX4_init, Cond.code yX4_init cX4_init 1 none, Cond.methodLink RX4 3 objectInit, Cond.fieldLink RX4 9 "PackThreads$Row" "kept" "[Z", Cond.instanceMethod yX0_init, Cond.code yX0_init cX0_init 1 none, Cond.methodLink RX0 3 objectInit, Cond.fieldLink RX0 9 "PackThreads$Failed" "before" "[Z"]
def wsL_law_r5 : List Cond := [Cond.fieldLink RX0 15 "PackThreads$Failed" "line" "[I", Cond.methodLink RX6 46 yX8_init, Cond.instanceMethod yX8_init, Cond.code yX8_init cX8_init 2 none, Cond.methodLink RX8 3 objectInit, Cond.fieldLink RX8 9 "PackThreads$Worker" "number" "I", Cond.methodLink RL 12 yX10_init, Cond.instanceMethod yX10_init, Cond.code yX10_init cX10_init 1 none, Cond.methodLink RX10 1 objectInit, Cond.fieldLink RX10 7 "PackThreadsModel" "text" "[I", Cond.fieldLink RX10 13 "PackThreadsModel" "blockSize" "I", Cond.fieldLink RX10 17 "PackThreadsModel" "window" "I", Cond.fieldLink RX10 20 "PackThreadsModel" "cells" "I", Cond.fieldLink RX10 23 "PackThreadsModel" "most" "I", Cond.fieldLink RX10 26 "PackThreadsModel" "plantKind" "[I", Cond.fieldLink RX10 29 "PackThreadsModel" "plantStep" "[I", Cond.fieldLink RX10 32 "PackThreadsModel" "plantTwice" "[Z", Cond.fieldLink RX10 36 "PackThreadsModel" "pack" "[I", Cond.fieldLink RX10 39 "PackThreadsModel" "packEnd" "[I", Cond.fieldLink RX10 42 "PackThreadsModel" "tokens" "[I", Cond.fieldLink RX10 45 "PackThreadsModel" "state" "[I", Cond.fieldLink RX10 48 "PackThreadsModel" "block" "[I", Cond.fieldLink RX10 51 "PackThreadsModel" "step" "[I"]
def wsL_law_r6 : List Cond := [Cond.fieldLink RX10 54 "PackThreadsModel" "made" "[I", Cond.fieldLink RX10 57 "PackThreadsModel" "ended" "[I", Cond.fieldLink RX10 60 "PackThreadsModel" "isInterrupted" "[Z", Cond.fieldLink RX10 63 "PackThreadsModel" "hasFailed" "[Z", Cond.fieldLink RX10 66 "PackThreadsModel" "again" "[I", Cond.fieldLink RX10 69 "PackThreadsModel" "inRow" "[Z", Cond.fieldLink RX10 72 "PackThreadsModel" "line" "[I", Cond.fieldLink RX10 75 "PackThreadsModel" "size" "I", Cond.methodLink RL 13 yX9_type, Cond.instanceMethod yX9_type, Cond.selects RX9 yX9_type yX9_type, Cond.code yX9_type cX9_type 2 (some .int), Cond.methodLink RX9 52 yX7_isFull, Cond.instanceMethod yX7_isFull, Cond.selects RX7 yX7_isFull yX7_isFull, Cond.code yX7_isFull cX7_isFull 1 (some .boolean), Cond.fieldLink RX7 15 "PackThreads$Text" "length" "I", Cond.methodLink RX9 56 yX7_add, Cond.instanceMethod yX7_add, Cond.selects RX7 yX7_add yX7_add, Cond.code yX7_add cX7_add 2 none, Cond.methodLink RX9 60 yX2_forget, Cond.instanceMethod yX2_forget, Cond.selects RX2 yX2_forget yX2_forget]
def wsL_law_r7 : List Cond := [Cond.code yX2_forget cX2_forget 1 none, Cond.fieldLink RX2 29 "PackThreads$Packs" "made" "Z", Cond.methodLink RX9 63 yX7_length, Cond.instanceMethod yX7_length, Cond.selects RX7 yX7_length yX7_length, Cond.code yX7_length cX7_length 1 (some .int), Cond.methodLink RL 17 yX10_type, Cond.instanceMethod yX10_type, Cond.selects RX10 yX10_type yX10_type, Cond.code yX10_type cX10_type 2 (some .int), Cond.fieldLink RX10 82 "PackThreadsModel" "isBegun" "Z", Cond.fieldLink RX10 86 "PackThreadsModel" "isPacked" "Z", Cond.methodLink RX10 78 yX10_in, Cond.static yX10_in, Cond.code yX10_in cX10_in 3 (some .boolean), Cond.methodLink RL 18 yX9_set, Cond.instanceMethod yX9_set, Cond.selects RX9 yX9_set yX9_set, Cond.code yX9_set cX9_set 3 (some .int), Cond.methodLink RX9 67 yX5_allows, Cond.instanceMethod yX5_allows, Cond.selects RX5 yX5_allows yX5_allows, Cond.code yX5_allows cX5_allows 3 (some .boolean), Cond.fieldLink RX5 22 "PackThreads$Settings" "LEAST" "[I"]
def wsL_law_r8 : List Cond := [Cond.fieldLink RX5 26 "PackThreads$Settings" "MOST" "[I", Cond.methodLink RX9 71 yX5_replace, Cond.instanceMethod yX5_replace, Cond.selects RX5 yX5_replace yX5_replace, Cond.code yX5_replace cX5_replace 4 (some .int), Cond.methodLink RL 22 yX10_set, Cond.instanceMethod yX10_set, Cond.selects RX10 yX10_set yX10_set, Cond.code yX10_set cX10_set 5 (some .int), Cond.methodLink RL 23 yX9_plant, Cond.instanceMethod yX9_plant, Cond.selects RX9 yX9_plant yX9_plant, Cond.code yX9_plant cX9_plant 5 (some .int), Cond.methodLink RX9 75 yX3_put, Cond.instanceMethod yX3_put, Cond.selects RX3 yX3_put yX3_put, Cond.code yX3_put cX3_put 5 none, Cond.methodLink RL 27 yX10_plant, Cond.instanceMethod yX10_plant, Cond.selects RX10 yX10_plant yX10_plant, Cond.code yX10_plant cX10_plant 5 (some .int), Cond.methodLink RL 28 yX9_begin, Cond.instanceMethod yX9_begin, Cond.selects RX9 yX9_begin yX9_begin]
def wsL_law_r9 : List Cond := [Cond.code yX9_begin cX9_begin 2 (some .int), Cond.methodLink RX9 79 yX2_make, Cond.instanceMethod yX2_make, Cond.selects RX2 yX2_make yX2_make, Cond.code yX2_make cX2_make 3 none, Cond.fieldLink RX2 33 "PackThreads$Packs" "count" "I", Cond.fieldLink RX2 41 "PackThreads$Packs" "blocks" "I", Cond.methodLink RX2 37 yX2_blocksOfText, Cond.instanceMethod yX2_blocksOfText, Cond.selects RX2 yX2_blocksOfText yX2_blocksOfText, Cond.code yX2_blocksOfText cX2_blocksOfText 2 (some .int), Cond.methodLink RX2 44 yX5_size, Cond.instanceMethod yX5_size, Cond.selects RX5 yX5_size yX5_size, Cond.code yX5_size cX5_size 1 (some .int), Cond.methodLink RX2 57 yX7_length, Cond.methodLink RX2 49 yX2_bytesOf, Cond.instanceMethod yX2_bytesOf, Cond.selects RX2 yX2_bytesOf yX2_bytesOf, Cond.code yX2_bytesOf cX2_bytesOf 3 (some .int), Cond.methodLink RX2 94 Lib.Math.min.name, Cond.static Lib.Math.min.name, Cond.initialized "java/lang/Math", Cond.code Lib.Math.min.name Lib.Math.min.code 2 (some .int)]
def wsL_law_r10 : List Cond := [Cond.methodLink RX2 83 Lib.Math.max.name, Cond.static Lib.Math.max.name, Cond.code Lib.Math.max.name Lib.Math.max.code 2 (some .int), Cond.methodLink RX2 53 yX2_packBytes, Cond.instanceMethod yX2_packBytes, Cond.selects RX2 yX2_packBytes yX2_packBytes, Cond.code yX2_packBytes cX2_packBytes 7 (some .int), Cond.fieldLink RX2 62 "PackThreads$Packs" "runAt" "I", Cond.methodLink RX2 65 yX2_bestDistance, Cond.instanceMethod yX2_bestDistance, Cond.selects RX2 yX2_bestDistance yX2_bestDistance, Cond.code yX2_bestDistance cX2_bestDistance 8 (some .int), Cond.methodLink RX2 91 yX5_window, Cond.instanceMethod yX5_window, Cond.selects RX5 yX5_window yX5_window, Cond.code yX5_window cX5_window 1 (some .int), Cond.methodLink RX2 68 yX2_alike, Cond.instanceMethod yX2_alike, Cond.selects RX2 yX2_alike yX2_alike, Cond.code yX2_alike cX2_alike 5 (some .int), Cond.methodLink RX2 72 yX7_at, Cond.instanceMethod yX7_at, Cond.selects RX7 yX7_at yX7_at, Cond.code yX7_at cX7_at 2 (some .int)]
def wsL_law_r11 : List Cond := [Cond.methodLink RX2 75 yX2_putByte, Cond.instanceMethod yX2_putByte, Cond.selects RX2 yX2_putByte yX2_putByte, Cond.code yX2_putByte cX2_putByte 2 none, Cond.methodLink RX2 88 yX2_put, Cond.instanceMethod yX2_put, Cond.selects RX2 yX2_put yX2_put, Cond.code yX2_put cX2_put 2 none, Cond.methodLink RX2 79 yX2_putCopy, Cond.instanceMethod yX2_putCopy, Cond.selects RX2 yX2_putCopy yX2_putCopy, Cond.code yX2_putCopy cX2_putCopy 3 none, Cond.methodLink RX9 82 yX5_cells, Cond.instanceMethod yX5_cells, Cond.selects RX5 yX5_cells yX5_cells, Cond.code yX5_cells cX5_cells 1 (some .int), Cond.methodLink RX9 85 yX5_rowLimit, Cond.instanceMethod yX5_rowLimit, Cond.selects RX5 yX5_rowLimit yX5_rowLimit, Cond.code yX5_rowLimit cX5_rowLimit 1 (some .int), Cond.methodLink RX9 88 yX6_start, Cond.instanceMethod yX6_start, Cond.selects RX6 yX6_start yX6_start, Cond.code yX6_start cX6_start 5 none]
def wsL_law_r12 : List Cond := [Cond.fieldLink RX6 49 "PackThreads$Stream" "threads" "I", Cond.fieldLink RX6 62 "PackThreads$Stream" "latest" "I", Cond.fieldLink RX6 65 "PackThreads$Stream" "nextBlock" "I", Cond.fieldLink RX6 68 "PackThreads$Stream" "stoppedAt" "I", Cond.fieldLink RX6 71 "PackThreads$Stream" "stoppedKind" "I", Cond.fieldLink RX6 74 "PackThreads$Stream" "failures" "I", Cond.fieldLink RX6 77 "PackThreads$Stream" "turnsDone" "I", Cond.methodLink RX6 53 yX8_renew, Cond.instanceMethod yX8_renew, Cond.selects RX8 yX8_renew yX8_renew, Cond.code yX8_renew cX8_renew 1 none, Cond.fieldLink RX8 18 "PackThreads$Worker" "made" "I", Cond.fieldLink RX8 21 "PackThreads$Worker" "timesEnded" "I", Cond.fieldLink RX8 24 "PackThreads$Worker" "interrupted" "Z", Cond.methodLink RX8 15 yX8_becomeFree, Cond.instanceMethod yX8_becomeFree, Cond.selects RX8 yX8_becomeFree yX8_becomeFree, Cond.code yX8_becomeFree cX8_becomeFree 1 none, Cond.fieldLink RX8 28 "PackThreads$Worker" "state" "I", Cond.fieldLink RX8 31 "PackThreads$Worker" "block" "I", Cond.fieldLink RX8 34 "PackThreads$Worker" "step" "I", Cond.fieldLink RX8 37 "PackThreads$Worker" "cells" "I", Cond.methodLink RX6 56 yX1_fill, Cond.instanceMethod yX1_fill]
def wsL_law_r13 : List Cond := [Cond.selects RX1 yX1_fill yX1_fill, Cond.code yX1_fill cX1_fill 2 none, Cond.fieldLink RX1 17 "PackThreads$Memory" "left" "I", Cond.fieldLink RX1 21 "PackThreads$Memory" "inLine" "I", Cond.methodLink RX6 59 yX4_renew, Cond.instanceMethod yX4_renew, Cond.selects RX4 yX4_renew yX4_renew, Cond.code yX4_renew cX4_renew 3 none, Cond.fieldLink RX4 15 "PackThreads$Row" "packs" "I", Cond.fieldLink RX4 19 "PackThreads$Row" "limit" "I", Cond.fieldLink RX4 22 "PackThreads$Row" "joined" "I", Cond.methodLink RX6 61 yX0_renew, Cond.instanceMethod yX0_renew, Cond.selects RX0 yX0_renew yX0_renew, Cond.code yX0_renew cX0_renew 2 none, Cond.fieldLink RX0 19 "PackThreads$Failed" "inLine" "I", Cond.methodLink RX9 92 yX2_blocks, Cond.instanceMethod yX2_blocks, Cond.selects RX2 yX2_blocks yX2_blocks, Cond.code yX2_blocks cX2_blocks 1 (some .int), Cond.methodLink RL 31 yX10_begin, Cond.instanceMethod yX10_begin, Cond.selects RX10 yX10_begin yX10_begin, Cond.code yX10_begin cX10_begin 3 (some .int)]
def wsL_law_r14 : List Cond := [Cond.fieldLink RX10 118 "PackThreadsModel" "threads" "I", Cond.fieldLink RX10 121 "PackThreadsModel" "blocks" "I", Cond.fieldLink RX10 124 "PackThreadsModel" "latest" "I", Cond.fieldLink RX10 127 "PackThreadsModel" "never" "I", Cond.fieldLink RX10 130 "PackThreadsModel" "againMany" "I", Cond.fieldLink RX10 133 "PackThreadsModel" "rowMany" "I", Cond.fieldLink RX10 136 "PackThreadsModel" "joined" "I", Cond.fieldLink RX10 139 "PackThreadsModel" "left" "I", Cond.fieldLink RX10 142 "PackThreadsModel" "lineMany" "I", Cond.fieldLink RX10 145 "PackThreadsModel" "stopBlock" "I", Cond.fieldLink RX10 148 "PackThreadsModel" "stopKind" "I", Cond.fieldLink RX10 151 "PackThreadsModel" "failures" "I", Cond.fieldLink RX10 154 "PackThreadsModel" "turns" "I", Cond.methodLink RX10 115 yX10_packAll, Cond.instanceMethod yX10_packAll, Cond.selects RX10 yX10_packAll yX10_packAll, Cond.code yX10_packAll cX10_packAll 2 none, Cond.fieldLink RX10 89 "PackThreadsModel" "packed" "I", Cond.methodLink RX10 92 yX10_many, Cond.instanceMethod yX10_many, Cond.selects RX10 yX10_many yX10_many, Cond.code yX10_many cX10_many 1 (some .int), Cond.methodLink RX10 96 yX10_packOne, Cond.instanceMethod yX10_packOne]
def wsL_law_r15 : List Cond := [Cond.selects RX10 yX10_packOne yX10_packOne, Cond.code yX10_packOne cX10_packOne 9 none, Cond.methodLink RX10 100 yX10_lengthOf, Cond.instanceMethod yX10_lengthOf, Cond.selects RX10 yX10_lengthOf yX10_lengthOf, Cond.code yX10_lengthOf cX10_lengthOf 3 (some .int), Cond.methodLink RX10 104 yX10_alike, Cond.instanceMethod yX10_alike, Cond.selects RX10 yX10_alike yX10_alike, Cond.code yX10_alike cX10_alike 5 (some .int), Cond.methodLink RX10 108 yX10_plainTo, Cond.instanceMethod yX10_plainTo, Cond.selects RX10 yX10_plainTo yX10_plainTo, Cond.code yX10_plainTo cX10_plainTo 4 none, Cond.methodLink RX10 112 yX10_lay, Cond.instanceMethod yX10_lay, Cond.selects RX10 yX10_lay yX10_lay, Cond.code yX10_lay cX10_lay 2 none, Cond.methodLink RL 32 yX9_turn, Cond.instanceMethod yX9_turn, Cond.selects RX9 yX9_turn yX9_turn, Cond.code yX9_turn cX9_turn 2 (some .int), Cond.methodLink RX9 95 yX9_isThread, Cond.instanceMethod yX9_isThread]
def wsL_law_r16 : List Cond := [Cond.selects RX9 yX9_isThread yX9_isThread, Cond.code yX9_isThread cX9_isThread 3 (some .boolean), Cond.methodLink RX9 136 yX6_threads, Cond.instanceMethod yX6_threads, Cond.selects RX6 yX6_threads yX6_threads, Cond.code yX6_threads cX6_threads 1 (some .int), Cond.methodLink RX9 99 yX6_giveTurn, Cond.instanceMethod yX6_giveTurn, Cond.selects RX6 yX6_giveTurn yX6_giveTurn, Cond.code yX6_giveTurn cX6_giveTurn 4 (some .boolean), Cond.methodLink RX6 88 yX6_worker, Cond.instanceMethod yX6_worker, Cond.selects RX6 yX6_worker yX6_worker, Cond.code yX6_worker cX6_worker 2 (some (.object "PackThreads$Worker")), Cond.methodLink RX6 95 yX6_doFree, Cond.instanceMethod yX6_doFree, Cond.selects RX6 yX6_doFree yX6_doFree, Cond.code yX6_doFree cX6_doFree 2 (some .boolean), Cond.methodLink RX6 109 yX6_hasStopped, Cond.instanceMethod yX6_hasStopped, Cond.selects RX6 yX6_hasStopped yX6_hasStopped, Cond.code yX6_hasStopped cX6_hasStopped 1 (some .boolean), Cond.methodLink RX6 115 yX2_blocks, Cond.methodLink RX6 121 yX8_end]
def wsL_law_r17 : List Cond := [Cond.instanceMethod yX8_end, Cond.selects RX8 yX8_end yX8_end, Cond.code yX8_end cX8_end 1 none, Cond.methodLink RX6 124 yX6_isBlockDoneAgain, Cond.instanceMethod yX6_isBlockDoneAgain, Cond.selects RX6 yX6_isBlockDoneAgain yX6_isBlockDoneAgain, Cond.code yX6_isBlockDoneAgain cX6_isBlockDoneAgain 3 (some .boolean), Cond.methodLink RX6 158 yX0_has, Cond.instanceMethod yX0_has, Cond.selects RX0 yX0_has yX0_has, Cond.code yX0_has cX0_has 2 (some .boolean), Cond.methodLink RX6 130 yX6_isAnyAtWork, Cond.instanceMethod yX6_isAnyAtWork, Cond.selects RX6 yX6_isAnyAtWork yX6_isAnyAtWork, Cond.code yX6_isAnyAtWork cX6_isAnyAtWork 2 (some .boolean), Cond.methodLink RX6 133 yX0_takeFirst, Cond.instanceMethod yX0_takeFirst, Cond.selects RX0 yX0_takeFirst yX0_takeFirst, Cond.code yX0_takeFirst cX0_takeFirst 3 (some .int), Cond.methodLink RX6 136 yX6_take, Cond.instanceMethod yX6_take, Cond.selects RX6 yX6_take yX6_take, Cond.code yX6_take cX6_take 3 none, Cond.methodLink RX6 140 yX2_bytesOf]
def wsL_law_r18 : List Cond := [Cond.methodLink RX6 144 yX8_choose, Cond.instanceMethod yX8_choose, Cond.selects RX8 yX8_choose yX8_choose, Cond.code yX8_choose cX8_choose 3 none, Cond.methodLink RX6 148 yX1_ask, Cond.instanceMethod yX1_ask, Cond.selects RX1 yX1_ask yX1_ask, Cond.code yX1_ask cX1_ask 2 none, Cond.methodLink RX1 27 yX8_startWork, Cond.instanceMethod yX8_startWork, Cond.selects RX8 yX8_startWork yX8_startWork, Cond.code yX8_startWork cX8_startWork 1 none, Cond.methodLink RX1 30 yX8_waitInLine, Cond.instanceMethod yX8_waitInLine, Cond.selects RX8 yX8_waitInLine yX8_waitInLine, Cond.code yX8_waitInLine cX8_waitInLine 1 none, Cond.methodLink RX6 99 yX6_doWork, Cond.instanceMethod yX6_doWork, Cond.selects RX6 yX6_doWork yX6_doWork, Cond.code yX6_doWork cX6_doWork 4 (some .boolean), Cond.methodLink RX6 161 yX3_kindAt, Cond.instanceMethod yX3_kindAt, Cond.selects RX3 yX3_kindAt yX3_kindAt, Cond.code yX3_kindAt cX3_kindAt 4 (some .int)]
def wsL_law_r19 : List Cond := [Cond.methodLink RX6 167 yX6_fail, Cond.instanceMethod yX6_fail, Cond.selects RX6 yX6_fail yX6_fail, Cond.code yX6_fail cX6_fail 4 none, Cond.methodLink RX6 176 yX1_giveBack, Cond.instanceMethod yX1_giveBack, Cond.selects RX1 yX1_giveBack yX1_giveBack, Cond.code yX1_giveBack cX1_giveBack 4 none, Cond.methodLink RX1 33 yX1_dropFirst, Cond.instanceMethod yX1_dropFirst, Cond.selects RX1 yX1_dropFirst yX1_dropFirst, Cond.code yX1_dropFirst cX1_dropFirst 2 none, Cond.methodLink RX6 185 yX8_becomeFree, Cond.methodLink RX6 188 yX0_add, Cond.instanceMethod yX0_add, Cond.selects RX0 yX0_add yX0_add, Cond.code yX0_add cX0_add 2 none, Cond.methodLink RX6 170 yX2_tokensOf, Cond.instanceMethod yX2_tokensOf, Cond.selects RX2 yX2_tokensOf yX2_tokensOf, Cond.code yX2_tokensOf cX2_tokensOf 2 (some .int), Cond.methodLink RX6 179 yX8_holdPack, Cond.instanceMethod yX8_holdPack, Cond.selects RX8 yX8_holdPack yX8_holdPack]
def wsL_law_r20 : List Cond := [Cond.code yX8_holdPack cX8_holdPack 1 none, Cond.methodLink RX6 182 yX6_layPack, Cond.instanceMethod yX6_layPack, Cond.selects RX6 yX6_layPack yX6_layPack, Cond.code yX6_layPack cX6_layPack 2 (some .boolean), Cond.methodLink RX6 191 yX4_lay, Cond.instanceMethod yX4_lay, Cond.selects RX4 yX4_lay yX4_lay, Cond.code yX4_lay cX4_lay 2 (some .boolean), Cond.methodLink RX6 102 yX6_doHolding, Cond.instanceMethod yX6_doHolding, Cond.selects RX6 yX6_doHolding yX6_doHolding, Cond.code yX6_doHolding cX6_doHolding 2 (some .boolean), Cond.methodLink RL 35 yX10_turn, Cond.instanceMethod yX10_turn, Cond.selects RX10 yX10_turn yX10_turn, Cond.code yX10_turn cX10_turn 2 (some .int), Cond.methodLink RX10 189 yX10_isThread, Cond.instanceMethod yX10_isThread, Cond.selects RX10 yX10_isThread yX10_isThread, Cond.code yX10_isThread cX10_isThread 2 (some .boolean), Cond.methodLink RX10 193 yX10_act, Cond.instanceMethod yX10_act, Cond.selects RX10 yX10_act yX10_act]
def wsL_law_r21 : List Cond := [Cond.code yX10_act cX10_act 3 (some .int), Cond.methodLink RX10 183 yX10_free, Cond.instanceMethod yX10_free, Cond.selects RX10 yX10_free yX10_free, Cond.code yX10_free cX10_free 4 (some .int), Cond.methodLink RX10 163 yX10_isStopped, Cond.instanceMethod yX10_isStopped, Cond.selects RX10 yX10_isStopped yX10_isStopped, Cond.code yX10_isStopped cX10_isStopped 1 (some .boolean), Cond.methodLink RX10 167 yX10_ends, Cond.instanceMethod yX10_ends, Cond.selects RX10 yX10_ends yX10_ends, Cond.code yX10_ends cX10_ends 2 none, Cond.methodLink RX10 170 yX10_isSome, Cond.instanceMethod yX10_isSome, Cond.selects RX10 yX10_isSome yX10_isSome, Cond.code yX10_isSome cX10_isSome 5 (some .boolean), Cond.methodLink RX10 174 yX10_takes, Cond.instanceMethod yX10_takes, Cond.selects RX10 yX10_takes yX10_takes, Cond.code yX10_takes cX10_takes 3 none, Cond.methodLink RX10 157 yX10_works, Cond.instanceMethod yX10_works, Cond.selects RX10 yX10_works yX10_works]
def wsL_law_r22 : List Cond := [Cond.code yX10_works cX10_works 2 none, Cond.methodLink RX10 186 yX10_work, Cond.instanceMethod yX10_work, Cond.selects RX10 yX10_work yX10_work, Cond.code yX10_work cX10_work 5 (some .int), Cond.methodLink RX10 177 yX10_givesBack, Cond.instanceMethod yX10_givesBack, Cond.selects RX10 yX10_givesBack yX10_givesBack, Cond.code yX10_givesBack cX10_givesBack 3 none, Cond.methodLink RX10 160 yX10_leaves, Cond.instanceMethod yX10_leaves, Cond.selects RX10 yX10_leaves yX10_leaves, Cond.code yX10_leaves cX10_leaves 4 none, Cond.methodLink RX10 180 yX10_lays, Cond.instanceMethod yX10_lays, Cond.selects RX10 yX10_lays yX10_lays, Cond.code yX10_lays cX10_lays 3 (some .int), Cond.methodLink RL 36 yX9_run, Cond.instanceMethod yX9_run, Cond.selects RX9 yX9_run yX9_run, Cond.code yX9_run cX9_run 2 (some .int), Cond.methodLink RX9 102 yX6_giveTurnsInRing, Cond.instanceMethod yX6_giveTurnsInRing, Cond.selects RX6 yX6_giveTurnsInRing yX6_giveTurnsInRing]
def wsL_law_r23 : List Cond := [Cond.code yX6_giveTurnsInRing cX6_giveTurnsInRing 5 (some .int), Cond.methodLink RX6 80 yX6_allEnded, Cond.instanceMethod yX6_allEnded, Cond.selects RX6 yX6_allEnded yX6_allEnded, Cond.code yX6_allEnded cX6_allEnded 2 (some .boolean), Cond.methodLink RX6 84 yX6_giveTurn, Cond.methodLink RL 39 yX10_run, Cond.instanceMethod yX10_run, Cond.selects RX10 yX10_run yX10_run, Cond.code yX10_run cX10_run 4 (some .int), Cond.methodLink RX10 196 yX10_isOver, Cond.instanceMethod yX10_isOver, Cond.selects RX10 yX10_isOver yX10_isOver, Cond.code yX10_isOver cX10_isOver 3 (some .boolean), Cond.methodLink RL 40 yX9_interrupt, Cond.instanceMethod yX9_interrupt, Cond.selects RX9 yX9_interrupt yX9_interrupt, Cond.code yX9_interrupt cX9_interrupt 2 (some .int), Cond.methodLink RX9 106 yX6_markInterrupted, Cond.instanceMethod yX6_markInterrupted, Cond.selects RX6 yX6_markInterrupted yX6_markInterrupted, Cond.code yX6_markInterrupted cX6_markInterrupted 3 (some .boolean), Cond.methodLink RL 43 yX10_interrupt, Cond.instanceMethod yX10_interrupt]
def wsL_law_r24 : List Cond := [Cond.selects RX10 yX10_interrupt yX10_interrupt, Cond.code yX10_interrupt cX10_interrupt 2 (some .int), Cond.methodLink RL 44 yX9_thread, Cond.instanceMethod yX9_thread, Cond.selects RX9 yX9_thread yX9_thread, Cond.code yX9_thread cX9_thread 3 (some .int), Cond.methodLink RX9 109 yX6_tellOfThread, Cond.instanceMethod yX6_tellOfThread, Cond.selects RX6 yX6_tellOfThread yX6_tellOfThread, Cond.code yX6_tellOfThread cX6_tellOfThread 4 (some .int), Cond.methodLink RL 47 yX10_thread, Cond.instanceMethod yX10_thread, Cond.selects RX10 yX10_thread yX10_thread, Cond.code yX10_thread cX10_thread 3 (some .int), Cond.methodLink RL 48 yX9_out, Cond.instanceMethod yX9_out, Cond.selects RX9 yX9_out yX9_out, Cond.code yX9_out cX9_out 2 (some .int), Cond.methodLink RX9 112 yX6_joinedBytes, Cond.instanceMethod yX6_joinedBytes, Cond.selects RX6 yX6_joinedBytes yX6_joinedBytes, Cond.code yX6_joinedBytes cX6_joinedBytes 1 (some .int), Cond.methodLink RX6 195 yX2_lengthOfFirst, Cond.instanceMethod yX2_lengthOfFirst]
def wsL_law_r25 : List Cond := [Cond.selects RX2 yX2_lengthOfFirst yX2_lengthOfFirst, Cond.code yX2_lengthOfFirst cX2_lengthOfFirst 2 (some .int), Cond.methodLink RX9 115 yX2_byteAt, Cond.instanceMethod yX2_byteAt, Cond.selects RX2 yX2_byteAt yX2_byteAt, Cond.code yX2_byteAt cX2_byteAt 2 (some .int), Cond.methodLink RL 51 yX10_out, Cond.instanceMethod yX10_out, Cond.selects RX10 yX10_out yX10_out, Cond.code yX10_out cX10_out 2 (some .int), Cond.methodLink RX10 199 yX10_outSize, Cond.instanceMethod yX10_outSize, Cond.selects RX10 yX10_outSize yX10_outSize, Cond.code yX10_outSize cX10_outSize 1 (some .int), Cond.methodLink RL 52 yX9_told, Cond.instanceMethod yX9_told, Cond.selects RX9 yX9_told yX9_told, Cond.code yX9_told cX9_told 2 (some .int), Cond.methodLink RX9 118 yX6_tellOfStores, Cond.instanceMethod yX6_tellOfStores, Cond.selects RX6 yX6_tellOfStores yX6_tellOfStores, Cond.code yX6_tellOfStores cX6_tellOfStores 2 (some .int), Cond.methodLink RX6 207 yX6_joinedBytes, Cond.methodLink RX9 121 yX6_tellOfCourse]
def wsL_law_r26 : List Cond := [Cond.instanceMethod yX6_tellOfCourse, Cond.selects RX6 yX6_tellOfCourse yX6_tellOfCourse, Cond.code yX6_tellOfCourse cX6_tellOfCourse 2 (some .int), Cond.methodLink RL 55 yX10_told, Cond.instanceMethod yX10_told, Cond.selects RX10 yX10_told yX10_told, Cond.code yX10_told cX10_told 2 (some .int), Cond.methodLink RL 56 yX9_waiting, Cond.instanceMethod yX9_waiting, Cond.selects RX9 yX9_waiting yX9_waiting, Cond.code yX9_waiting cX9_waiting 2 (some .int), Cond.methodLink RX9 124 yX6_numberInLine, Cond.instanceMethod yX6_numberInLine, Cond.selects RX6 yX6_numberInLine yX6_numberInLine, Cond.code yX6_numberInLine cX6_numberInLine 2 (some .int), Cond.methodLink RX6 198 yX1_numberAt, Cond.instanceMethod yX1_numberAt, Cond.selects RX1 yX1_numberAt yX1_numberAt, Cond.code yX1_numberAt cX1_numberAt 3 (some .int), Cond.methodLink RL 59 yX10_waiting, Cond.instanceMethod yX10_waiting, Cond.selects RX10 yX10_waiting yX10_waiting, Cond.code yX10_waiting cX10_waiting 2 (some .int), Cond.methodLink RL 60 yX9_plain]
def wsL_law_r27 : List Cond := [Cond.instanceMethod yX9_plain, Cond.selects RX9 yX9_plain yX9_plain, Cond.code yX9_plain cX9_plain 2 (some .int), Cond.methodLink RL 63 yX10_plain, Cond.instanceMethod yX10_plain, Cond.selects RX10 yX10_plain yX10_plain, Cond.code yX10_plain cX10_plain 2 (some .int), Cond.methodLink RL 64 yX9_close, Cond.instanceMethod yX9_close, Cond.selects RX9 yX9_close yX9_close, Cond.code yX9_close cX9_close 1 (some .int), Cond.methodLink RX9 127 yX6_endAll, Cond.instanceMethod yX6_endAll, Cond.selects RX6 yX6_endAll yX6_endAll, Cond.code yX6_endAll cX6_endAll 4 (some .int), Cond.methodLink RL 68 yX10_close, Cond.instanceMethod yX10_close, Cond.selects RX10 yX10_close yX10_close, Cond.code yX10_close cX10_close 3 (some .int), Cond.methodLink RL 69 yX9_clear, Cond.instanceMethod yX9_clear, Cond.selects RX9 yX9_clear yX9_clear, Cond.code yX9_clear cX9_clear 2 (some .int), Cond.methodLink RX9 130 yX7_empty]
def wsL_law_r28 : List Cond := [Cond.instanceMethod yX7_empty, Cond.selects RX7 yX7_empty yX7_empty, Cond.code yX7_empty cX7_empty 1 none, Cond.methodLink RX9 133 yX3_removeAll, Cond.instanceMethod yX3_removeAll, Cond.selects RX3 yX3_removeAll yX3_removeAll, Cond.code yX3_removeAll cX3_removeAll 2 none, Cond.methodLink RL 72 yX10_clear, Cond.instanceMethod yX10_clear, Cond.selects RX10 yX10_clear yX10_clear, Cond.code yX10_clear cX10_clear 3 (some .int)]
def wsL_law : List Cond := (wsL_law_r1 ++ (wsL_law_r2 ++ (wsL_law_r3 ++ (wsL_law_r4 ++ (wsL_law_r5 ++ (wsL_law_r6 ++ (wsL_law_r7 ++ (wsL_law_r8 ++ (wsL_law_r9 ++ (wsL_law_r10 ++ (wsL_law_r11 ++ (wsL_law_r12 ++ (wsL_law_r13 ++ (wsL_law_r14 ++ (wsL_law_r15 ++ (wsL_law_r16 ++ (wsL_law_r17 ++ (wsL_law_r18 ++ (wsL_law_r19 ++ (wsL_law_r20 ++ (wsL_law_r21 ++ (wsL_law_r22 ++ (wsL_law_r23 ++ (wsL_law_r24 ++ (wsL_law_r25 ++ (wsL_law_r26 ++ (wsL_law_r27 ++ wsL_law_r28))))))))))))))))))))))))))) ++ wsX90 ++ wsX100 ++ wsX70 ++ wsX50 ++ wsX30 ++ wsX20 ++ wsX60 ++ wsX10 ++ wsX40 ++ wsX00 ++ wsX80 ++ ([] : List Cond)
theorem inlX0 : ∀ w ∈ wsX00, w ∈ wsL_law := fun _ h => List.mem_append_left _ (List.mem_append_left _ (List.mem_append_right _ h))
theorem inlX1 : ∀ w ∈ wsX10, w ∈ wsL_law := fun _ h => List.mem_append_left _ (List.mem_append_left _ (List.mem_append_left _ (List.mem_append_left _ (List.mem_append_right _ h))))
theorem inlX2 : ∀ w ∈ wsX20, w ∈ wsL_law := fun _ h => List.mem_append_left _ (List.mem_append_left _ (List.mem_append_left _ (List.mem_append_left _ (List.mem_append_left _ (List.mem_append_left _ (List.mem_append_right _ h))))))
theorem inlX3 : ∀ w ∈ wsX30, w ∈ wsL_law := fun _ h => List.mem_append_left _ (List.mem_append_left _ (List.mem_append_left _ (List.mem_append_left _ (List.mem_append_left _ (List.mem_append_left _ (List.mem_append_left _ (List.mem_append_right _ h)))))))
theorem inlX4 : ∀ w ∈ wsX40, w ∈ wsL_law := fun _ h => List.mem_append_left _ (List.mem_append_left _ (List.mem_append_left _ (List.mem_append_right _ h)))
theorem inlX5 : ∀ w ∈ wsX50, w ∈ wsL_law := fun _ h => List.mem_append_left _ (List.mem_append_left _ (List.mem_append_left _ (List.mem_append_left _ (List.mem_append_left _ (List.mem_append_left _ (List.mem_append_left _ (List.mem_append_left _ (List.mem_append_right _ h))))))))
theorem inlX6 : ∀ w ∈ wsX60, w ∈ wsL_law := fun _ h => List.mem_append_left _ (List.mem_append_left _ (List.mem_append_left _ (List.mem_append_left _ (List.mem_append_left _ (List.mem_append_right _ h)))))
theorem inlX7 : ∀ w ∈ wsX70, w ∈ wsL_law := fun _ h => List.mem_append_left _ (List.mem_append_left _ (List.mem_append_left _ (List.mem_append_left _ (List.mem_append_left _ (List.mem_append_left _ (List.mem_append_left _ (List.mem_append_left _ (List.mem_append_left _ (List.mem_append_right _ h)))))))))
theorem inlX8 : ∀ w ∈ wsX80, w ∈ wsL_law := fun _ h => List.mem_append_left _ (List.mem_append_right _ h)
theorem inlX9 : ∀ w ∈ wsX90, w ∈ wsL_law := fun _ h => List.mem_append_left _ (List.mem_append_left _ (List.mem_append_left _ (List.mem_append_left _ (List.mem_append_left _ (List.mem_append_left _ (List.mem_append_left _ (List.mem_append_left _ (List.mem_append_left _ (List.mem_append_left _ (List.mem_append_left _ (List.mem_append_right _ h)))))))))))
theorem inlX10 : ∀ w ∈ wsX100, w ∈ wsL_law := fun _ h => List.mem_append_left _ (List.mem_append_left _ (List.mem_append_left _ (List.mem_append_left _ (List.mem_append_left _ (List.mem_append_left _ (List.mem_append_left _ (List.mem_append_left _ (List.mem_append_left _ (List.mem_append_left _ (List.mem_append_right _ h))))))))))
abbrev vwCl : List vw_C := [(RX0, TX0, 3), (RX1, TX1, 3), (RX2, TX2, 9), (RX3, TX3, 3), (RX4, TX4, 4), (RX5, TX5, 4), (RX6, TX6, 13), (RX7, TX7, 2), (RX8, TX8, 8), (RX9, TX9, 6), (RX10, TX10, 38)]
end
section
theorem dX0_init_0 : decode cX0_init 0 = .ok (.aload_n 0, 1) := by decide +kernel
theorem dX0_init_1 : decode cX0_init 1 = .ok (.invokespecial 3, 3) := by decide +kernel
theorem dX0_init_4 : decode cX0_init 4 = .ok (.aload_n 0, 1) := by decide +kernel
theorem dX0_init_5 : decode cX0_init 5 = .ok (.bipush 40, 2) := by decide +kernel
theorem dX0_init_7 : decode cX0_init 7 = .ok (.newarray .boolean, 2) := by decide +kernel
theorem dX0_init_9 : decode cX0_init 9 = .ok (.putfield 9, 3) := by decide +kernel
theorem dX0_init_12 : decode cX0_init 12 = .ok (.aload_n 0, 1) := by decide +kernel
theorem dX0_init_13 : decode cX0_init 13 = .ok (.bipush 40, 2) := by decide +kernel
theorem dX0_init_15 : decode cX0_init 15 = .ok (.newarray .int, 2) := by decide +kernel
theorem dX0_init_17 : decode cX0_init 17 = .ok (.putfield 15, 3) := by decide +kernel
theorem dX0_init_20 : decode cX0_init 20 = .ok (.return_, 1) := by decide +kernel
theorem dX0_renew_0 : decode cX0_renew 0 = .ok (.iconst 0, 1) := by decide +kernel
theorem dX0_renew_1 : decode cX0_renew 1 = .ok (.istore_n 1, 1) := by decide +kernel
theorem dX0_renew_2 : decode cX0_renew 2 = .ok (.iload_n 1, 1) := by decide +kernel
theorem dX0_renew_3 : decode cX0_renew 3 = .ok (.aload_n 0, 1) := by decide +kernel
theorem dX0_renew_4 : decode cX0_renew 4 = .ok (.getfield 9, 3) := by decide +kernel
theorem dX0_renew_7 : decode cX0_renew 7 = .ok (.arraylength, 1) := by decide +kernel
theorem dX0_renew_8 : decode cX0_renew 8 = .ok (.if_icmp .ge 16, 3) := by decide +kernel
theorem dX0_renew_11 : decode cX0_renew 11 = .ok (.aload_n 0, 1) := by decide +kernel
theorem dX0_renew_12 : decode cX0_renew 12 = .ok (.getfield 9, 3) := by decide +kernel
theorem dX0_renew_15 : decode cX0_renew 15 = .ok (.iload_n 1, 1) := by decide +kernel
theorem dX0_renew_16 : decode cX0_renew 16 = .ok (.iconst 0, 1) := by decide +kernel
theorem dX0_renew_17 : decode cX0_renew 17 = .ok (.bastore, 1) := by decide +kernel
theorem dX0_renew_18 : decode cX0_renew 18 = .ok (.iinc 1 1, 3) := by decide +kernel
theorem dX0_renew_21 : decode cX0_renew 21 = .ok (.goto (-19), 3) := by decide +kernel
theorem dX0_renew_24 : decode cX0_renew 24 = .ok (.aload_n 0, 1) := by decide +kernel
theorem dX0_renew_25 : decode cX0_renew 25 = .ok (.iconst 0, 1) := by decide +kernel
theorem dX0_renew_26 : decode cX0_renew 26 = .ok (.putfield 19, 3) := by decide +kernel
theorem dX0_renew_29 : decode cX0_renew 29 = .ok (.return_, 1) := by decide +kernel
theorem dX0_has_0 : decode cX0_has 0 = .ok (.iload_n 1, 1) := by decide +kernel
theorem dX0_has_1 : decode cX0_has 1 = .ok (.ifCond .lt 25, 3) := by decide +kernel
theorem dX0_has_4 : decode cX0_has 4 = .ok (.iload_n 1, 1) := by decide +kernel
theorem dX0_has_5 : decode cX0_has 5 = .ok (.aload_n 0, 1) := by decide +kernel
theorem dX0_has_6 : decode cX0_has 6 = .ok (.getfield 9, 3) := by decide +kernel
theorem dX0_has_9 : decode cX0_has 9 = .ok (.arraylength, 1) := by decide +kernel
theorem dX0_has_10 : decode cX0_has 10 = .ok (.if_icmp .ge 16, 3) := by decide +kernel
theorem dX0_has_13 : decode cX0_has 13 = .ok (.aload_n 0, 1) := by decide +kernel
theorem dX0_has_14 : decode cX0_has 14 = .ok (.getfield 9, 3) := by decide +kernel
theorem dX0_has_17 : decode cX0_has 17 = .ok (.iload_n 1, 1) := by decide +kernel
theorem dX0_has_18 : decode cX0_has 18 = .ok (.baload, 1) := by decide +kernel
theorem dX0_has_19 : decode cX0_has 19 = .ok (.ifCond .eq 7, 3) := by decide +kernel
theorem dX0_has_22 : decode cX0_has 22 = .ok (.iconst 1, 1) := by decide +kernel
theorem dX0_has_23 : decode cX0_has 23 = .ok (.goto 4, 3) := by decide +kernel
theorem dX0_has_26 : decode cX0_has 26 = .ok (.iconst 0, 1) := by decide +kernel
theorem dX0_has_27 : decode cX0_has 27 = .ok (.ireturn, 1) := by decide +kernel
theorem dX0_add_0 : decode cX0_add 0 = .ok (.iload_n 1, 1) := by decide +kernel
theorem dX0_add_1 : decode cX0_add 1 = .ok (.ifCond .lt 58, 3) := by decide +kernel
theorem dX0_add_4 : decode cX0_add 4 = .ok (.iload_n 1, 1) := by decide +kernel
theorem dX0_add_5 : decode cX0_add 5 = .ok (.aload_n 0, 1) := by decide +kernel
theorem dX0_add_6 : decode cX0_add 6 = .ok (.getfield 9, 3) := by decide +kernel
theorem dX0_add_9 : decode cX0_add 9 = .ok (.arraylength, 1) := by decide +kernel
theorem dX0_add_10 : decode cX0_add 10 = .ok (.if_icmp .ge 49, 3) := by decide +kernel
theorem dX0_add_13 : decode cX0_add 13 = .ok (.aload_n 0, 1) := by decide +kernel
theorem dX0_add_14 : decode cX0_add 14 = .ok (.getfield 19, 3) := by decide +kernel
theorem dX0_add_17 : decode cX0_add 17 = .ok (.ifCond .lt 42, 3) := by decide +kernel
theorem dX0_add_20 : decode cX0_add 20 = .ok (.aload_n 0, 1) := by decide +kernel
theorem dX0_add_21 : decode cX0_add 21 = .ok (.getfield 19, 3) := by decide +kernel
theorem dX0_add_24 : decode cX0_add 24 = .ok (.aload_n 0, 1) := by decide +kernel
theorem dX0_add_25 : decode cX0_add 25 = .ok (.getfield 15, 3) := by decide +kernel
theorem dX0_add_28 : decode cX0_add 28 = .ok (.arraylength, 1) := by decide +kernel
theorem dX0_add_29 : decode cX0_add 29 = .ok (.if_icmp .ge 30, 3) := by decide +kernel
theorem dX0_add_32 : decode cX0_add 32 = .ok (.aload_n 0, 1) := by decide +kernel
theorem dX0_add_33 : decode cX0_add 33 = .ok (.getfield 9, 3) := by decide +kernel
theorem dX0_add_36 : decode cX0_add 36 = .ok (.iload_n 1, 1) := by decide +kernel
theorem dX0_add_37 : decode cX0_add 37 = .ok (.iconst 1, 1) := by decide +kernel
theorem dX0_add_38 : decode cX0_add 38 = .ok (.bastore, 1) := by decide +kernel
theorem dX0_add_39 : decode cX0_add 39 = .ok (.aload_n 0, 1) := by decide +kernel
theorem dX0_add_40 : decode cX0_add 40 = .ok (.getfield 15, 3) := by decide +kernel
theorem dX0_add_43 : decode cX0_add 43 = .ok (.aload_n 0, 1) := by decide +kernel
theorem dX0_add_44 : decode cX0_add 44 = .ok (.getfield 19, 3) := by decide +kernel
theorem dX0_add_47 : decode cX0_add 47 = .ok (.iload_n 1, 1) := by decide +kernel
theorem dX0_add_48 : decode cX0_add 48 = .ok (.iastore, 1) := by decide +kernel
theorem dX0_add_49 : decode cX0_add 49 = .ok (.aload_n 0, 1) := by decide +kernel
theorem dX0_add_50 : decode cX0_add 50 = .ok (.dup, 1) := by decide +kernel
theorem dX0_add_51 : decode cX0_add 51 = .ok (.getfield 19, 3) := by decide +kernel
theorem dX0_add_54 : decode cX0_add 54 = .ok (.iconst 1, 1) := by decide +kernel
theorem dX0_add_55 : decode cX0_add 55 = .ok (.iadd, 1) := by decide +kernel
theorem dX0_add_56 : decode cX0_add 56 = .ok (.putfield 19, 3) := by decide +kernel
theorem dX0_add_59 : decode cX0_add 59 = .ok (.return_, 1) := by decide +kernel
theorem dX0_takeFirst_0 : decode cX0_takeFirst 0 = .ok (.aload_n 0, 1) := by decide +kernel
theorem dX0_takeFirst_1 : decode cX0_takeFirst 1 = .ok (.getfield 19, 3) := by decide +kernel
theorem dX0_takeFirst_4 : decode cX0_takeFirst 4 = .ok (.ifCond .gt 5, 3) := by decide +kernel
theorem dX0_takeFirst_7 : decode cX0_takeFirst 7 = .ok (.iconst (-1), 1) := by decide +kernel
theorem dX0_takeFirst_8 : decode cX0_takeFirst 8 = .ok (.ireturn, 1) := by decide +kernel
theorem dX0_takeFirst_9 : decode cX0_takeFirst 9 = .ok (.aload_n 0, 1) := by decide +kernel
theorem dX0_takeFirst_10 : decode cX0_takeFirst 10 = .ok (.getfield 15, 3) := by decide +kernel
theorem dX0_takeFirst_13 : decode cX0_takeFirst 13 = .ok (.iconst 0, 1) := by decide +kernel
theorem dX0_takeFirst_14 : decode cX0_takeFirst 14 = .ok (.iaload, 1) := by decide +kernel
theorem dX0_takeFirst_15 : decode cX0_takeFirst 15 = .ok (.istore_n 1, 1) := by decide +kernel
theorem dX0_takeFirst_16 : decode cX0_takeFirst 16 = .ok (.iconst 1, 1) := by decide +kernel
theorem dX0_takeFirst_17 : decode cX0_takeFirst 17 = .ok (.istore_n 2, 1) := by decide +kernel
theorem dX0_takeFirst_18 : decode cX0_takeFirst 18 = .ok (.iload_n 2, 1) := by decide +kernel
theorem dX0_takeFirst_19 : decode cX0_takeFirst 19 = .ok (.aload_n 0, 1) := by decide +kernel
theorem dX0_takeFirst_20 : decode cX0_takeFirst 20 = .ok (.getfield 19, 3) := by decide +kernel
theorem dX0_takeFirst_23 : decode cX0_takeFirst 23 = .ok (.if_icmp .ge 32, 3) := by decide +kernel
theorem dX0_takeFirst_26 : decode cX0_takeFirst 26 = .ok (.iload_n 2, 1) := by decide +kernel
theorem dX0_takeFirst_27 : decode cX0_takeFirst 27 = .ok (.aload_n 0, 1) := by decide +kernel
theorem dX0_takeFirst_28 : decode cX0_takeFirst 28 = .ok (.getfield 15, 3) := by decide +kernel
theorem dX0_takeFirst_31 : decode cX0_takeFirst 31 = .ok (.arraylength, 1) := by decide +kernel
theorem dX0_takeFirst_32 : decode cX0_takeFirst 32 = .ok (.if_icmp .ge 23, 3) := by decide +kernel
theorem dX0_takeFirst_35 : decode cX0_takeFirst 35 = .ok (.aload_n 0, 1) := by decide +kernel
theorem dX0_takeFirst_36 : decode cX0_takeFirst 36 = .ok (.getfield 15, 3) := by decide +kernel
theorem dX0_takeFirst_39 : decode cX0_takeFirst 39 = .ok (.iload_n 2, 1) := by decide +kernel
theorem dX0_takeFirst_40 : decode cX0_takeFirst 40 = .ok (.iconst 1, 1) := by decide +kernel
theorem dX0_takeFirst_41 : decode cX0_takeFirst 41 = .ok (.isub, 1) := by decide +kernel
theorem dX0_takeFirst_42 : decode cX0_takeFirst 42 = .ok (.aload_n 0, 1) := by decide +kernel
theorem dX0_takeFirst_43 : decode cX0_takeFirst 43 = .ok (.getfield 15, 3) := by decide +kernel
theorem dX0_takeFirst_46 : decode cX0_takeFirst 46 = .ok (.iload_n 2, 1) := by decide +kernel
theorem dX0_takeFirst_47 : decode cX0_takeFirst 47 = .ok (.iaload, 1) := by decide +kernel
theorem dX0_takeFirst_48 : decode cX0_takeFirst 48 = .ok (.iastore, 1) := by decide +kernel
theorem dX0_takeFirst_49 : decode cX0_takeFirst 49 = .ok (.iinc 2 1, 3) := by decide +kernel
theorem dX0_takeFirst_52 : decode cX0_takeFirst 52 = .ok (.goto (-34), 3) := by decide +kernel
theorem dX0_takeFirst_55 : decode cX0_takeFirst 55 = .ok (.aload_n 0, 1) := by decide +kernel
theorem dX0_takeFirst_56 : decode cX0_takeFirst 56 = .ok (.dup, 1) := by decide +kernel
theorem dX0_takeFirst_57 : decode cX0_takeFirst 57 = .ok (.getfield 19, 3) := by decide +kernel
theorem dX0_takeFirst_60 : decode cX0_takeFirst 60 = .ok (.iconst 1, 1) := by decide +kernel
theorem dX0_takeFirst_61 : decode cX0_takeFirst 61 = .ok (.isub, 1) := by decide +kernel
theorem dX0_takeFirst_62 : decode cX0_takeFirst 62 = .ok (.putfield 19, 3) := by decide +kernel
theorem dX0_takeFirst_65 : decode cX0_takeFirst 65 = .ok (.iload_n 1, 1) := by decide +kernel
theorem dX0_takeFirst_66 : decode cX0_takeFirst 66 = .ok (.ireturn, 1) := by decide +kernel
theorem dX1_init_0 : decode cX1_init 0 = .ok (.aload_n 0, 1) := by decide +kernel
theorem dX1_init_1 : decode cX1_init 1 = .ok (.invokespecial 3, 3) := by decide +kernel
theorem dX1_init_4 : decode cX1_init 4 = .ok (.aload_n 0, 1) := by decide +kernel
theorem dX1_init_5 : decode cX1_init 5 = .ok (.bipush 6, 2) := by decide +kernel
theorem dX1_init_7 : decode cX1_init 7 = .ok (.anewarray 9, 3) := by decide +kernel
theorem dX1_init_10 : decode cX1_init 10 = .ok (.putfield 11, 3) := by decide +kernel
theorem dX1_init_13 : decode cX1_init 13 = .ok (.return_, 1) := by decide +kernel
theorem dX1_fill_0 : decode cX1_fill 0 = .ok (.aload_n 0, 1) := by decide +kernel
theorem dX1_fill_1 : decode cX1_fill 1 = .ok (.iload_n 1, 1) := by decide +kernel
theorem dX1_fill_2 : decode cX1_fill 2 = .ok (.putfield 17, 3) := by decide +kernel
theorem dX1_fill_5 : decode cX1_fill 5 = .ok (.aload_n 0, 1) := by decide +kernel
theorem dX1_fill_6 : decode cX1_fill 6 = .ok (.iconst 0, 1) := by decide +kernel
theorem dX1_fill_7 : decode cX1_fill 7 = .ok (.putfield 21, 3) := by decide +kernel
theorem dX1_fill_10 : decode cX1_fill 10 = .ok (.return_, 1) := by decide +kernel
set_option maxRecDepth 20000 in
theorem ggX1_ask_X8_startWork : GoodIn wsX1_ask wsX8_startWork := goodIn_r _ [8, 9, 10, 18, 19, 20, 21, 22, 23, 24, 25] (by decide +kernel) (by decide +kernel)
set_option maxRecDepth 20000 in
theorem gX1_ask_X8_startWork : GoodIn wsX1_ask (wsV RX1 27 RX8 yX8_startWork wsX8_startWork) := goodIn_app (goodIn_of _ (by decide +kernel)) ggX1_ask_X8_startWork
set_option maxRecDepth 20000 in
theorem ggX1_ask_X8_waitInLine : GoodIn wsX1_ask wsX8_waitInLine := goodIn_r _ [14, 9, 18, 19, 20, 21, 22, 23, 24, 25] (by decide +kernel) (by decide +kernel)
set_option maxRecDepth 20000 in
theorem gX1_ask_X8_waitInLine : GoodIn wsX1_ask (wsV RX1 30 RX8 yX8_waitInLine wsX8_waitInLine) := goodIn_app (goodIn_of _ (by decide +kernel)) ggX1_ask_X8_waitInLine
theorem dX1_ask_0 : decode cX1_ask 0 = .ok (.aload_n 0, 1) := by decide +kernel
theorem dX1_ask_1 : decode cX1_ask 1 = .ok (.getfield 21, 3) := by decide +kernel
theorem dX1_ask_4 : decode cX1_ask 4 = .ok (.ifCond .ne 34, 3) := by decide +kernel
theorem dX1_ask_7 : decode cX1_ask 7 = .ok (.aload_n 1, 1) := by decide +kernel
theorem dX1_ask_8 : decode cX1_ask 8 = .ok (.getfield 24, 3) := by decide +kernel
theorem dX1_ask_11 : decode cX1_ask 11 = .ok (.aload_n 0, 1) := by decide +kernel
theorem dX1_ask_12 : decode cX1_ask 12 = .ok (.getfield 17, 3) := by decide +kernel
theorem dX1_ask_15 : decode cX1_ask 15 = .ok (.if_icmp .gt 23, 3) := by decide +kernel
theorem dX1_ask_18 : decode cX1_ask 18 = .ok (.aload_n 0, 1) := by decide +kernel
theorem dX1_ask_19 : decode cX1_ask 19 = .ok (.dup, 1) := by decide +kernel
theorem dX1_ask_20 : decode cX1_ask 20 = .ok (.getfield 17, 3) := by decide +kernel
theorem dX1_ask_23 : decode cX1_ask 23 = .ok (.aload_n 1, 1) := by decide +kernel
theorem dX1_ask_24 : decode cX1_ask 24 = .ok (.getfield 24, 3) := by decide +kernel
theorem dX1_ask_27 : decode cX1_ask 27 = .ok (.isub, 1) := by decide +kernel
theorem dX1_ask_28 : decode cX1_ask 28 = .ok (.putfield 17, 3) := by decide +kernel
theorem dX1_ask_31 : decode cX1_ask 31 = .ok (.aload_n 1, 1) := by decide +kernel
theorem dX1_ask_32 : decode cX1_ask 32 = .ok (.invokevirtual 27, 3) := by decide +kernel
theorem dX1_ask_35 : decode cX1_ask 35 = .ok (.goto 46, 3) := by decide +kernel
theorem dX1_ask_38 : decode cX1_ask 38 = .ok (.aload_n 0, 1) := by decide +kernel
theorem dX1_ask_39 : decode cX1_ask 39 = .ok (.getfield 21, 3) := by decide +kernel
theorem dX1_ask_42 : decode cX1_ask 42 = .ok (.ifCond .lt 39, 3) := by decide +kernel
theorem dX1_ask_45 : decode cX1_ask 45 = .ok (.aload_n 0, 1) := by decide +kernel
theorem dX1_ask_46 : decode cX1_ask 46 = .ok (.getfield 21, 3) := by decide +kernel
theorem dX1_ask_49 : decode cX1_ask 49 = .ok (.aload_n 0, 1) := by decide +kernel
theorem dX1_ask_50 : decode cX1_ask 50 = .ok (.getfield 11, 3) := by decide +kernel
theorem dX1_ask_53 : decode cX1_ask 53 = .ok (.arraylength, 1) := by decide +kernel
theorem dX1_ask_54 : decode cX1_ask 54 = .ok (.if_icmp .ge 27, 3) := by decide +kernel
theorem dX1_ask_57 : decode cX1_ask 57 = .ok (.aload_n 0, 1) := by decide +kernel
theorem dX1_ask_58 : decode cX1_ask 58 = .ok (.getfield 11, 3) := by decide +kernel
theorem dX1_ask_61 : decode cX1_ask 61 = .ok (.aload_n 0, 1) := by decide +kernel
theorem dX1_ask_62 : decode cX1_ask 62 = .ok (.getfield 21, 3) := by decide +kernel
theorem dX1_ask_65 : decode cX1_ask 65 = .ok (.aload_n 1, 1) := by decide +kernel
theorem dX1_ask_66 : decode cX1_ask 66 = .ok (.aastore, 1) := by decide +kernel
theorem dX1_ask_67 : decode cX1_ask 67 = .ok (.aload_n 0, 1) := by decide +kernel
theorem dX1_ask_68 : decode cX1_ask 68 = .ok (.dup, 1) := by decide +kernel
theorem dX1_ask_69 : decode cX1_ask 69 = .ok (.getfield 21, 3) := by decide +kernel
theorem dX1_ask_72 : decode cX1_ask 72 = .ok (.iconst 1, 1) := by decide +kernel
theorem dX1_ask_73 : decode cX1_ask 73 = .ok (.iadd, 1) := by decide +kernel
theorem dX1_ask_74 : decode cX1_ask 74 = .ok (.putfield 21, 3) := by decide +kernel
theorem dX1_ask_77 : decode cX1_ask 77 = .ok (.aload_n 1, 1) := by decide +kernel
theorem dX1_ask_78 : decode cX1_ask 78 = .ok (.invokevirtual 30, 3) := by decide +kernel
theorem dX1_ask_81 : decode cX1_ask 81 = .ok (.return_, 1) := by decide +kernel
set_option maxRecDepth 20000 in
theorem ggX1_giveBack_X1_dropFirst : GoodIn wsX1_giveBack wsX1_dropFirst := goodIn_r _ [8, 2, 3, 16, 17, 18] (by decide +kernel) (by decide +kernel)
set_option maxRecDepth 20000 in
theorem gX1_giveBack_X1_dropFirst : GoodIn wsX1_giveBack (wsV RX1 33 RX1 yX1_dropFirst wsX1_dropFirst) := goodIn_app (goodIn_of _ (by decide +kernel)) ggX1_giveBack_X1_dropFirst
set_option maxRecDepth 20000 in
theorem ggX1_giveBack_X8_startWork : GoodIn wsX1_giveBack wsX8_startWork := goodIn_r _ [13, 14, 15, 19, 20, 21, 22, 23, 24, 25, 26] (by decide +kernel) (by decide +kernel)
set_option maxRecDepth 20000 in
theorem gX1_giveBack_X8_startWork : GoodIn wsX1_giveBack (wsV RX1 27 RX8 yX8_startWork wsX8_startWork) := goodIn_app (goodIn_of _ (by decide +kernel)) ggX1_giveBack_X8_startWork
theorem dX1_giveBack_0 : decode cX1_giveBack 0 = .ok (.aload_n 0, 1) := by decide +kernel
theorem dX1_giveBack_1 : decode cX1_giveBack 1 = .ok (.dup, 1) := by decide +kernel
theorem dX1_giveBack_2 : decode cX1_giveBack 2 = .ok (.getfield 17, 3) := by decide +kernel
theorem dX1_giveBack_5 : decode cX1_giveBack 5 = .ok (.iload_n 1, 1) := by decide +kernel
theorem dX1_giveBack_6 : decode cX1_giveBack 6 = .ok (.iadd, 1) := by decide +kernel
theorem dX1_giveBack_7 : decode cX1_giveBack 7 = .ok (.putfield 17, 3) := by decide +kernel
theorem dX1_giveBack_10 : decode cX1_giveBack 10 = .ok (.aload_n 0, 1) := by decide +kernel
theorem dX1_giveBack_11 : decode cX1_giveBack 11 = .ok (.getfield 21, 3) := by decide +kernel
theorem dX1_giveBack_14 : decode cX1_giveBack 14 = .ok (.istore_n 2, 1) := by decide +kernel
theorem dX1_giveBack_15 : decode cX1_giveBack 15 = .ok (.iload_n 2, 1) := by decide +kernel
theorem dX1_giveBack_16 : decode cX1_giveBack 16 = .ok (.ifCond .le 53, 3) := by decide +kernel
theorem dX1_giveBack_19 : decode cX1_giveBack 19 = .ok (.aload_n 0, 1) := by decide +kernel
theorem dX1_giveBack_20 : decode cX1_giveBack 20 = .ok (.getfield 11, 3) := by decide +kernel
theorem dX1_giveBack_23 : decode cX1_giveBack 23 = .ok (.iconst 0, 1) := by decide +kernel
theorem dX1_giveBack_24 : decode cX1_giveBack 24 = .ok (.aaload, 1) := by decide +kernel
theorem dX1_giveBack_25 : decode cX1_giveBack 25 = .ok (.astore_n 3, 1) := by decide +kernel
theorem dX1_giveBack_26 : decode cX1_giveBack 26 = .ok (.aload_n 3, 1) := by decide +kernel
theorem dX1_giveBack_27 : decode cX1_giveBack 27 = .ok (.ifnull 14, 3) := by decide +kernel
theorem dX1_giveBack_30 : decode cX1_giveBack 30 = .ok (.aload_n 3, 1) := by decide +kernel
theorem dX1_giveBack_31 : decode cX1_giveBack 31 = .ok (.getfield 24, 3) := by decide +kernel
theorem dX1_giveBack_34 : decode cX1_giveBack 34 = .ok (.aload_n 0, 1) := by decide +kernel
theorem dX1_giveBack_35 : decode cX1_giveBack 35 = .ok (.getfield 17, 3) := by decide +kernel
theorem dX1_giveBack_38 : decode cX1_giveBack 38 = .ok (.if_icmp .le 4, 3) := by decide +kernel
theorem dX1_giveBack_41 : decode cX1_giveBack 41 = .ok (.return_, 1) := by decide +kernel
theorem dX1_giveBack_42 : decode cX1_giveBack 42 = .ok (.aload_n 0, 1) := by decide +kernel
theorem dX1_giveBack_43 : decode cX1_giveBack 43 = .ok (.invokevirtual 33, 3) := by decide +kernel
theorem dX1_giveBack_46 : decode cX1_giveBack 46 = .ok (.aload_n 0, 1) := by decide +kernel
theorem dX1_giveBack_47 : decode cX1_giveBack 47 = .ok (.dup, 1) := by decide +kernel
theorem dX1_giveBack_48 : decode cX1_giveBack 48 = .ok (.getfield 17, 3) := by decide +kernel
theorem dX1_giveBack_51 : decode cX1_giveBack 51 = .ok (.aload_n 3, 1) := by decide +kernel
theorem dX1_giveBack_52 : decode cX1_giveBack 52 = .ok (.getfield 24, 3) := by decide +kernel
theorem dX1_giveBack_55 : decode cX1_giveBack 55 = .ok (.isub, 1) := by decide +kernel
theorem dX1_giveBack_56 : decode cX1_giveBack 56 = .ok (.putfield 17, 3) := by decide +kernel
theorem dX1_giveBack_59 : decode cX1_giveBack 59 = .ok (.aload_n 3, 1) := by decide +kernel
theorem dX1_giveBack_60 : decode cX1_giveBack 60 = .ok (.invokevirtual 27, 3) := by decide +kernel
theorem dX1_giveBack_63 : decode cX1_giveBack 63 = .ok (.iinc 2 (-1), 3) := by decide +kernel
theorem dX1_giveBack_66 : decode cX1_giveBack 66 = .ok (.goto (-51), 3) := by decide +kernel
theorem dX1_giveBack_69 : decode cX1_giveBack 69 = .ok (.return_, 1) := by decide +kernel
theorem dX1_dropFirst_0 : decode cX1_dropFirst 0 = .ok (.iconst 1, 1) := by decide +kernel
theorem dX1_dropFirst_1 : decode cX1_dropFirst 1 = .ok (.istore_n 1, 1) := by decide +kernel
theorem dX1_dropFirst_2 : decode cX1_dropFirst 2 = .ok (.iload_n 1, 1) := by decide +kernel
theorem dX1_dropFirst_3 : decode cX1_dropFirst 3 = .ok (.aload_n 0, 1) := by decide +kernel
theorem dX1_dropFirst_4 : decode cX1_dropFirst 4 = .ok (.getfield 21, 3) := by decide +kernel
theorem dX1_dropFirst_7 : decode cX1_dropFirst 7 = .ok (.if_icmp .ge 32, 3) := by decide +kernel
theorem dX1_dropFirst_10 : decode cX1_dropFirst 10 = .ok (.iload_n 1, 1) := by decide +kernel
theorem dX1_dropFirst_11 : decode cX1_dropFirst 11 = .ok (.aload_n 0, 1) := by decide +kernel
theorem dX1_dropFirst_12 : decode cX1_dropFirst 12 = .ok (.getfield 11, 3) := by decide +kernel
theorem dX1_dropFirst_15 : decode cX1_dropFirst 15 = .ok (.arraylength, 1) := by decide +kernel
theorem dX1_dropFirst_16 : decode cX1_dropFirst 16 = .ok (.if_icmp .ge 23, 3) := by decide +kernel
theorem dX1_dropFirst_19 : decode cX1_dropFirst 19 = .ok (.aload_n 0, 1) := by decide +kernel
theorem dX1_dropFirst_20 : decode cX1_dropFirst 20 = .ok (.getfield 11, 3) := by decide +kernel
theorem dX1_dropFirst_23 : decode cX1_dropFirst 23 = .ok (.iload_n 1, 1) := by decide +kernel
theorem dX1_dropFirst_24 : decode cX1_dropFirst 24 = .ok (.iconst 1, 1) := by decide +kernel
theorem dX1_dropFirst_25 : decode cX1_dropFirst 25 = .ok (.isub, 1) := by decide +kernel
theorem dX1_dropFirst_26 : decode cX1_dropFirst 26 = .ok (.aload_n 0, 1) := by decide +kernel
theorem dX1_dropFirst_27 : decode cX1_dropFirst 27 = .ok (.getfield 11, 3) := by decide +kernel
theorem dX1_dropFirst_30 : decode cX1_dropFirst 30 = .ok (.iload_n 1, 1) := by decide +kernel
theorem dX1_dropFirst_31 : decode cX1_dropFirst 31 = .ok (.aaload, 1) := by decide +kernel
theorem dX1_dropFirst_32 : decode cX1_dropFirst 32 = .ok (.aastore, 1) := by decide +kernel
theorem dX1_dropFirst_33 : decode cX1_dropFirst 33 = .ok (.iinc 1 1, 3) := by decide +kernel
theorem dX1_dropFirst_36 : decode cX1_dropFirst 36 = .ok (.goto (-34), 3) := by decide +kernel
theorem dX1_dropFirst_39 : decode cX1_dropFirst 39 = .ok (.aload_n 0, 1) := by decide +kernel
theorem dX1_dropFirst_40 : decode cX1_dropFirst 40 = .ok (.dup, 1) := by decide +kernel
theorem dX1_dropFirst_41 : decode cX1_dropFirst 41 = .ok (.getfield 21, 3) := by decide +kernel
theorem dX1_dropFirst_44 : decode cX1_dropFirst 44 = .ok (.iconst 1, 1) := by decide +kernel
theorem dX1_dropFirst_45 : decode cX1_dropFirst 45 = .ok (.isub, 1) := by decide +kernel
theorem dX1_dropFirst_46 : decode cX1_dropFirst 46 = .ok (.putfield 21, 3) := by decide +kernel
theorem dX1_dropFirst_49 : decode cX1_dropFirst 49 = .ok (.return_, 1) := by decide +kernel
theorem dX1_numberAt_0 : decode cX1_numberAt 0 = .ok (.iload_n 1, 1) := by decide +kernel
theorem dX1_numberAt_1 : decode cX1_numberAt 1 = .ok (.ifCond .lt 20, 3) := by decide +kernel
theorem dX1_numberAt_4 : decode cX1_numberAt 4 = .ok (.iload_n 1, 1) := by decide +kernel
theorem dX1_numberAt_5 : decode cX1_numberAt 5 = .ok (.aload_n 0, 1) := by decide +kernel
theorem dX1_numberAt_6 : decode cX1_numberAt 6 = .ok (.getfield 21, 3) := by decide +kernel
theorem dX1_numberAt_9 : decode cX1_numberAt 9 = .ok (.if_icmp .ge 12, 3) := by decide +kernel
theorem dX1_numberAt_12 : decode cX1_numberAt 12 = .ok (.iload_n 1, 1) := by decide +kernel
theorem dX1_numberAt_13 : decode cX1_numberAt 13 = .ok (.aload_n 0, 1) := by decide +kernel
theorem dX1_numberAt_14 : decode cX1_numberAt 14 = .ok (.getfield 11, 3) := by decide +kernel
theorem dX1_numberAt_17 : decode cX1_numberAt 17 = .ok (.arraylength, 1) := by decide +kernel
theorem dX1_numberAt_18 : decode cX1_numberAt 18 = .ok (.if_icmp .lt 5, 3) := by decide +kernel
theorem dX1_numberAt_21 : decode cX1_numberAt 21 = .ok (.iconst (-1), 1) := by decide +kernel
theorem dX1_numberAt_22 : decode cX1_numberAt 22 = .ok (.ireturn, 1) := by decide +kernel
theorem dX1_numberAt_23 : decode cX1_numberAt 23 = .ok (.aload_n 0, 1) := by decide +kernel
theorem dX1_numberAt_24 : decode cX1_numberAt 24 = .ok (.getfield 11, 3) := by decide +kernel
theorem dX1_numberAt_27 : decode cX1_numberAt 27 = .ok (.iload_n 1, 1) := by decide +kernel
theorem dX1_numberAt_28 : decode cX1_numberAt 28 = .ok (.aaload, 1) := by decide +kernel
theorem dX1_numberAt_29 : decode cX1_numberAt 29 = .ok (.astore_n 2, 1) := by decide +kernel
theorem dX1_numberAt_30 : decode cX1_numberAt 30 = .ok (.aload_n 2, 1) := by decide +kernel
theorem dX1_numberAt_31 : decode cX1_numberAt 31 = .ok (.ifnonnull 7, 3) := by decide +kernel
theorem dX1_numberAt_34 : decode cX1_numberAt 34 = .ok (.iconst (-1), 1) := by decide +kernel
theorem dX1_numberAt_35 : decode cX1_numberAt 35 = .ok (.goto 7, 3) := by decide +kernel
theorem dX1_numberAt_38 : decode cX1_numberAt 38 = .ok (.aload_n 2, 1) := by decide +kernel
theorem dX1_numberAt_39 : decode cX1_numberAt 39 = .ok (.getfield 36, 3) := by decide +kernel
theorem dX1_numberAt_42 : decode cX1_numberAt 42 = .ok (.ireturn, 1) := by decide +kernel
theorem dX2_init_0 : decode cX2_init 0 = .ok (.aload_n 0, 1) := by decide +kernel
theorem dX2_init_1 : decode cX2_init 1 = .ok (.invokespecial 3, 3) := by decide +kernel
theorem dX2_init_4 : decode cX2_init 4 = .ok (.aload_n 0, 1) := by decide +kernel
theorem dX2_init_5 : decode cX2_init 5 = .ok (.sipush 240, 3) := by decide +kernel
theorem dX2_init_8 : decode cX2_init 8 = .ok (.newarray .int, 2) := by decide +kernel
theorem dX2_init_10 : decode cX2_init 10 = .ok (.putfield 9, 3) := by decide +kernel
theorem dX2_init_13 : decode cX2_init 13 = .ok (.aload_n 0, 1) := by decide +kernel
theorem dX2_init_14 : decode cX2_init 14 = .ok (.bipush 40, 2) := by decide +kernel
theorem dX2_init_16 : decode cX2_init 16 = .ok (.newarray .int, 2) := by decide +kernel
theorem dX2_init_18 : decode cX2_init 18 = .ok (.putfield 15, 3) := by decide +kernel
theorem dX2_init_21 : decode cX2_init 21 = .ok (.aload_n 0, 1) := by decide +kernel
theorem dX2_init_22 : decode cX2_init 22 = .ok (.bipush 40, 2) := by decide +kernel
theorem dX2_init_24 : decode cX2_init 24 = .ok (.newarray .int, 2) := by decide +kernel
theorem dX2_init_26 : decode cX2_init 26 = .ok (.putfield 18, 3) := by decide +kernel
theorem dX2_init_29 : decode cX2_init 29 = .ok (.aload_n 0, 1) := by decide +kernel
theorem dX2_init_30 : decode cX2_init 30 = .ok (.aload_n 1, 1) := by decide +kernel
theorem dX2_init_31 : decode cX2_init 31 = .ok (.putfield 21, 3) := by decide +kernel
theorem dX2_init_34 : decode cX2_init 34 = .ok (.aload_n 0, 1) := by decide +kernel
theorem dX2_init_35 : decode cX2_init 35 = .ok (.aload_n 2, 1) := by decide +kernel
theorem dX2_init_36 : decode cX2_init 36 = .ok (.putfield 25, 3) := by decide +kernel
theorem dX2_init_39 : decode cX2_init 39 = .ok (.return_, 1) := by decide +kernel
theorem dX2_forget_0 : decode cX2_forget 0 = .ok (.aload_n 0, 1) := by decide +kernel
theorem dX2_forget_1 : decode cX2_forget 1 = .ok (.iconst 0, 1) := by decide +kernel
theorem dX2_forget_2 : decode cX2_forget 2 = .ok (.putfield 29, 3) := by decide +kernel
theorem dX2_forget_5 : decode cX2_forget 5 = .ok (.return_, 1) := by decide +kernel
set_option maxRecDepth 20000 in
theorem ggX2_make_X2_blocksOfText : GoodIn wsX2_make wsX2_blocksOfText := goodIn_r _ [11, 4, 12, 13, 14, 15, 16, 17, 18, 19, 20, 21, 22, 23, 24, 72, 73, 74, 75, 76, 77, 78, 79, 80, 81, 82, 83, 84, 85, 86] (by decide +kernel) (by decide +kernel)
set_option maxRecDepth 20000 in
theorem gX2_make_X2_blocksOfText : GoodIn wsX2_make (wsV RX2 37 RX2 yX2_blocksOfText wsX2_blocksOfText) := goodIn_app (goodIn_of _ (by decide +kernel)) ggX2_make_X2_blocksOfText
set_option maxRecDepth 20000 in
theorem ggX2_make_X5_size : GoodIn wsX2_make wsX5_size := goodIn_r _ [17, 18, 81, 82, 83, 84] (by decide +kernel) (by decide +kernel)
set_option maxRecDepth 20000 in
theorem gX2_make_X5_size : GoodIn wsX2_make (wsV RX2 44 RX5 yX5_size wsX5_size) := goodIn_app (goodIn_of _ (by decide +kernel)) ggX2_make_X5_size
set_option maxRecDepth 20000 in
theorem ggX2_make_X2_bytesOf : GoodIn wsX2_make wsX2_bytesOf := goodIn_r _ [28, 4, 12, 29, 30, 31, 32, 33, 34, 35, 13, 14, 15, 16, 17, 18, 19, 20, 21, 22, 23, 24, 72, 73, 74, 75, 76, 77, 78, 79, 80, 81, 82, 83, 84, 85, 86] (by decide +kernel) (by decide +kernel)
set_option maxRecDepth 20000 in
theorem gX2_make_X2_bytesOf : GoodIn wsX2_make (wsV RX2 49 RX2 yX2_bytesOf wsX2_bytesOf) := goodIn_app (goodIn_of _ (by decide +kernel)) ggX2_make_X2_bytesOf
set_option maxRecDepth 20000 in
theorem ggX2_make_X2_packBytes : GoodIn wsX2_make wsX2_packBytes := goodIn_r _ [39, 40, 12, 33, 34, 31, 35, 41, 42, 43, 10, 44, 4, 29, 30, 32, 45, 46, 47, 16, 48, 49, 50, 51, 52, 53, 54, 55, 56, 22, 57, 24, 58, 59, 60, 61, 62, 2, 63, 64, 65, 66, 67, 68, 69, 70, 71, 72, 73, 74, 75, 76, 77, 78, 79, 80, 81, 82, 83, 84, 85, 86] (by decide +kernel) (by decide +kernel)
set_option maxRecDepth 20000 in
theorem gX2_make_X2_packBytes : GoodIn wsX2_make (wsV RX2 53 RX2 yX2_packBytes wsX2_packBytes) := goodIn_app (goodIn_of _ (by decide +kernel)) ggX2_make_X2_packBytes
theorem dX2_make_0 : decode cX2_make 0 = .ok (.aload_n 0, 1) := by decide +kernel
theorem dX2_make_1 : decode cX2_make 1 = .ok (.getfield 29, 3) := by decide +kernel
theorem dX2_make_4 : decode cX2_make 4 = .ok (.ifCond .eq 4, 3) := by decide +kernel
theorem dX2_make_7 : decode cX2_make 7 = .ok (.return_, 1) := by decide +kernel
theorem dX2_make_8 : decode cX2_make 8 = .ok (.aload_n 0, 1) := by decide +kernel
theorem dX2_make_9 : decode cX2_make 9 = .ok (.iconst 0, 1) := by decide +kernel
theorem dX2_make_10 : decode cX2_make 10 = .ok (.putfield 33, 3) := by decide +kernel
theorem dX2_make_13 : decode cX2_make 13 = .ok (.aload_n 0, 1) := by decide +kernel
theorem dX2_make_14 : decode cX2_make 14 = .ok (.aload_n 0, 1) := by decide +kernel
theorem dX2_make_15 : decode cX2_make 15 = .ok (.invokevirtual 37, 3) := by decide +kernel
theorem dX2_make_18 : decode cX2_make 18 = .ok (.putfield 41, 3) := by decide +kernel
theorem dX2_make_21 : decode cX2_make 21 = .ok (.iconst 0, 1) := by decide +kernel
theorem dX2_make_22 : decode cX2_make 22 = .ok (.istore_n 1, 1) := by decide +kernel
theorem dX2_make_23 : decode cX2_make 23 = .ok (.iload_n 1, 1) := by decide +kernel
theorem dX2_make_24 : decode cX2_make 24 = .ok (.aload_n 0, 1) := by decide +kernel
theorem dX2_make_25 : decode cX2_make 25 = .ok (.getfield 41, 3) := by decide +kernel
theorem dX2_make_28 : decode cX2_make 28 = .ok (.if_icmp .ge 53, 3) := by decide +kernel
theorem dX2_make_31 : decode cX2_make 31 = .ok (.iload_n 1, 1) := by decide +kernel
theorem dX2_make_32 : decode cX2_make 32 = .ok (.bipush 40, 2) := by decide +kernel
theorem dX2_make_34 : decode cX2_make 34 = .ok (.if_icmp .ge 47, 3) := by decide +kernel
theorem dX2_make_37 : decode cX2_make 37 = .ok (.iload_n 1, 1) := by decide +kernel
theorem dX2_make_38 : decode cX2_make 38 = .ok (.aload_n 0, 1) := by decide +kernel
theorem dX2_make_39 : decode cX2_make 39 = .ok (.getfield 25, 3) := by decide +kernel
theorem dX2_make_42 : decode cX2_make 42 = .ok (.invokevirtual 44, 3) := by decide +kernel
theorem dX2_make_45 : decode cX2_make 45 = .ok (.imul, 1) := by decide +kernel
theorem dX2_make_46 : decode cX2_make 46 = .ok (.istore_n 2, 1) := by decide +kernel
theorem dX2_make_47 : decode cX2_make 47 = .ok (.aload_n 0, 1) := by decide +kernel
theorem dX2_make_48 : decode cX2_make 48 = .ok (.getfield 18, 3) := by decide +kernel
theorem dX2_make_51 : decode cX2_make 51 = .ok (.iload_n 1, 1) := by decide +kernel
theorem dX2_make_52 : decode cX2_make 52 = .ok (.aload_n 0, 1) := by decide +kernel
theorem dX2_make_53 : decode cX2_make 53 = .ok (.iload_n 2, 1) := by decide +kernel
theorem dX2_make_54 : decode cX2_make 54 = .ok (.iload_n 2, 1) := by decide +kernel
theorem dX2_make_55 : decode cX2_make 55 = .ok (.aload_n 0, 1) := by decide +kernel
theorem dX2_make_56 : decode cX2_make 56 = .ok (.iload_n 1, 1) := by decide +kernel
theorem dX2_make_57 : decode cX2_make 57 = .ok (.invokevirtual 49, 3) := by decide +kernel
theorem dX2_make_60 : decode cX2_make 60 = .ok (.iadd, 1) := by decide +kernel
theorem dX2_make_61 : decode cX2_make 61 = .ok (.invokevirtual 53, 3) := by decide +kernel
theorem dX2_make_64 : decode cX2_make 64 = .ok (.iastore, 1) := by decide +kernel
theorem dX2_make_65 : decode cX2_make 65 = .ok (.aload_n 0, 1) := by decide +kernel
theorem dX2_make_66 : decode cX2_make 66 = .ok (.getfield 15, 3) := by decide +kernel
theorem dX2_make_69 : decode cX2_make 69 = .ok (.iload_n 1, 1) := by decide +kernel
theorem dX2_make_70 : decode cX2_make 70 = .ok (.aload_n 0, 1) := by decide +kernel
theorem dX2_make_71 : decode cX2_make 71 = .ok (.getfield 33, 3) := by decide +kernel
theorem dX2_make_74 : decode cX2_make 74 = .ok (.iastore, 1) := by decide +kernel
theorem dX2_make_75 : decode cX2_make 75 = .ok (.iinc 1 1, 3) := by decide +kernel
theorem dX2_make_78 : decode cX2_make 78 = .ok (.goto (-55), 3) := by decide +kernel
theorem dX2_make_81 : decode cX2_make 81 = .ok (.aload_n 0, 1) := by decide +kernel
theorem dX2_make_82 : decode cX2_make 82 = .ok (.iconst 1, 1) := by decide +kernel
theorem dX2_make_83 : decode cX2_make 83 = .ok (.putfield 29, 3) := by decide +kernel
theorem dX2_make_86 : decode cX2_make 86 = .ok (.return_, 1) := by decide +kernel
set_option maxRecDepth 20000 in
theorem ggX2_blocksOfText_X5_size : GoodIn wsX2_blocksOfText wsX5_size := goodIn_r _ [7, 8, 24, 25, 26, 27] (by decide +kernel) (by decide +kernel)
set_option maxRecDepth 20000 in
theorem gX2_blocksOfText_X5_size : GoodIn wsX2_blocksOfText (wsV RX2 44 RX5 yX5_size wsX5_size) := goodIn_app (goodIn_of _ (by decide +kernel)) ggX2_blocksOfText_X5_size
set_option maxRecDepth 20000 in
theorem ggX2_blocksOfText_X7_length : GoodIn wsX2_blocksOfText wsX7_length := goodIn_r _ [13, 14, 28, 29] (by decide +kernel) (by decide +kernel)
set_option maxRecDepth 20000 in
theorem gX2_blocksOfText_X7_length : GoodIn wsX2_blocksOfText (wsV RX2 57 RX7 yX7_length wsX7_length) := goodIn_app (goodIn_of _ (by decide +kernel)) ggX2_blocksOfText_X7_length
theorem dX2_blocksOfText_0 : decode cX2_blocksOfText 0 = .ok (.aload_n 0, 1) := by decide +kernel
theorem dX2_blocksOfText_1 : decode cX2_blocksOfText 1 = .ok (.getfield 25, 3) := by decide +kernel
theorem dX2_blocksOfText_4 : decode cX2_blocksOfText 4 = .ok (.invokevirtual 44, 3) := by decide +kernel
theorem dX2_blocksOfText_7 : decode cX2_blocksOfText 7 = .ok (.istore_n 1, 1) := by decide +kernel
theorem dX2_blocksOfText_8 : decode cX2_blocksOfText 8 = .ok (.iload_n 1, 1) := by decide +kernel
theorem dX2_blocksOfText_9 : decode cX2_blocksOfText 9 = .ok (.ifCond .gt 7, 3) := by decide +kernel
theorem dX2_blocksOfText_12 : decode cX2_blocksOfText 12 = .ok (.iconst 0, 1) := by decide +kernel
theorem dX2_blocksOfText_13 : decode cX2_blocksOfText 13 = .ok (.goto 16, 3) := by decide +kernel
theorem dX2_blocksOfText_16 : decode cX2_blocksOfText 16 = .ok (.aload_n 0, 1) := by decide +kernel
theorem dX2_blocksOfText_17 : decode cX2_blocksOfText 17 = .ok (.getfield 21, 3) := by decide +kernel
theorem dX2_blocksOfText_20 : decode cX2_blocksOfText 20 = .ok (.invokevirtual 57, 3) := by decide +kernel
theorem dX2_blocksOfText_23 : decode cX2_blocksOfText 23 = .ok (.iload_n 1, 1) := by decide +kernel
theorem dX2_blocksOfText_24 : decode cX2_blocksOfText 24 = .ok (.iadd, 1) := by decide +kernel
theorem dX2_blocksOfText_25 : decode cX2_blocksOfText 25 = .ok (.iconst 1, 1) := by decide +kernel
theorem dX2_blocksOfText_26 : decode cX2_blocksOfText 26 = .ok (.isub, 1) := by decide +kernel
theorem dX2_blocksOfText_27 : decode cX2_blocksOfText 27 = .ok (.iload_n 1, 1) := by decide +kernel
theorem dX2_blocksOfText_28 : decode cX2_blocksOfText 28 = .ok (.idiv, 1) := by decide +kernel
theorem dX2_blocksOfText_29 : decode cX2_blocksOfText 29 = .ok (.ireturn, 1) := by decide +kernel
set_option maxRecDepth 20000 in
theorem ggX2_packBytes_X2_bestDistance : GoodIn wsX2_packBytes wsX2_bestDistance := goodIn_r _ [11, 12, 13, 14, 5, 15, 16, 17, 18, 19, 20, 21, 22, 23, 24, 10, 25, 2, 26, 27, 28, 29, 30, 31, 32, 47, 48, 49, 50, 51, 52, 53, 54, 55, 56, 57, 58, 59, 60, 61] (by decide +kernel) (by decide +kernel)
set_option maxRecDepth 20000 in
theorem gX2_packBytes_X2_bestDistance : GoodIn wsX2_packBytes (wsV RX2 65 RX2 yX2_bestDistance wsX2_bestDistance) := goodIn_app (goodIn_of _ (by decide +kernel)) ggX2_packBytes_X2_bestDistance
set_option maxRecDepth 20000 in
theorem ggX2_packBytes_X2_alike : GoodIn wsX2_packBytes wsX2_alike := goodIn_r _ [25, 2, 26, 27, 28, 29, 30, 31, 32, 47, 48, 49, 50, 51, 52, 53, 54, 55, 60, 61] (by decide +kernel) (by decide +kernel)
set_option maxRecDepth 20000 in
theorem gX2_packBytes_X2_alike : GoodIn wsX2_packBytes (wsV RX2 68 RX2 yX2_alike wsX2_alike) := goodIn_app (goodIn_of _ (by decide +kernel)) ggX2_packBytes_X2_alike
set_option maxRecDepth 20000 in
theorem ggX2_packBytes_X7_at : GoodIn wsX2_packBytes wsX7_at := goodIn_r _ [30, 31, 32, 60, 61] (by decide +kernel) (by decide +kernel)
set_option maxRecDepth 20000 in
theorem gX2_packBytes_X7_at : GoodIn wsX2_packBytes (wsV RX2 72 RX7 yX7_at wsX7_at) := goodIn_app (goodIn_of _ (by decide +kernel)) ggX2_packBytes_X7_at
set_option maxRecDepth 20000 in
theorem ggX2_packBytes_X2_putByte : GoodIn wsX2_packBytes wsX2_putByte := goodIn_r _ [36, 1, 37, 38, 39, 40, 41, 10, 42, 47, 48, 49, 50, 51, 52, 53, 54, 55] (by decide +kernel) (by decide +kernel)
set_option maxRecDepth 20000 in
theorem gX2_packBytes_X2_putByte : GoodIn wsX2_packBytes (wsV RX2 75 RX2 yX2_putByte wsX2_putByte) := goodIn_app (goodIn_of _ (by decide +kernel)) ggX2_packBytes_X2_putByte
set_option maxRecDepth 20000 in
theorem ggX2_packBytes_X2_putCopy : GoodIn wsX2_packBytes wsX2_putCopy := goodIn_r _ [46, 1, 39, 40, 41, 10, 42, 37, 38, 47, 48, 49, 50, 51, 52, 53, 54, 55] (by decide +kernel) (by decide +kernel)
set_option maxRecDepth 20000 in
theorem gX2_packBytes_X2_putCopy : GoodIn wsX2_packBytes (wsV RX2 79 RX2 yX2_putCopy wsX2_putCopy) := goodIn_app (goodIn_of _ (by decide +kernel)) ggX2_packBytes_X2_putCopy
set_option maxRecDepth 20000 in
theorem ggX2_packBytes_X2_put : GoodIn wsX2_packBytes wsX2_put := goodIn_r _ [42, 37, 38, 47, 48, 49, 50, 51, 52, 53, 54, 55] (by decide +kernel) (by decide +kernel)
set_option maxRecDepth 20000 in
theorem gX2_packBytes_X2_put : GoodIn wsX2_packBytes (wsV RX2 88 RX2 yX2_put wsX2_put) := goodIn_app (goodIn_of _ (by decide +kernel)) ggX2_packBytes_X2_put
theorem dX2_packBytes_0 : decode cX2_packBytes 0 = .ok (.iconst 0, 1) := by decide +kernel
theorem dX2_packBytes_1 : decode cX2_packBytes 1 = .ok (.istore_n 3, 1) := by decide +kernel
theorem dX2_packBytes_2 : decode cX2_packBytes 2 = .ok (.aload_n 0, 1) := by decide +kernel
theorem dX2_packBytes_3 : decode cX2_packBytes 3 = .ok (.iconst (-1), 1) := by decide +kernel
theorem dX2_packBytes_4 : decode cX2_packBytes 4 = .ok (.putfield 62, 3) := by decide +kernel
theorem dX2_packBytes_7 : decode cX2_packBytes 7 = .ok (.iload_n 1, 1) := by decide +kernel
theorem dX2_packBytes_8 : decode cX2_packBytes 8 = .ok (.istore 5, 2) := by decide +kernel
theorem dX2_packBytes_10 : decode cX2_packBytes 10 = .ok (.iload 5, 2) := by decide +kernel
theorem dX2_packBytes_12 : decode cX2_packBytes 12 = .ok (.iload_n 2, 1) := by decide +kernel
theorem dX2_packBytes_13 : decode cX2_packBytes 13 = .ok (.if_icmp .ge 78, 3) := by decide +kernel
theorem dX2_packBytes_16 : decode cX2_packBytes 16 = .ok (.aload_n 0, 1) := by decide +kernel
theorem dX2_packBytes_17 : decode cX2_packBytes 17 = .ok (.iload 5, 2) := by decide +kernel
theorem dX2_packBytes_19 : decode cX2_packBytes 19 = .ok (.iload_n 2, 1) := by decide +kernel
theorem dX2_packBytes_20 : decode cX2_packBytes 20 = .ok (.invokevirtual 65, 3) := by decide +kernel
theorem dX2_packBytes_23 : decode cX2_packBytes 23 = .ok (.istore 6, 2) := by decide +kernel
theorem dX2_packBytes_25 : decode cX2_packBytes 25 = .ok (.iload 6, 2) := by decide +kernel
theorem dX2_packBytes_27 : decode cX2_packBytes 27 = .ok (.ifCond .ne 7, 3) := by decide +kernel
theorem dX2_packBytes_30 : decode cX2_packBytes 30 = .ok (.iconst 1, 1) := by decide +kernel
theorem dX2_packBytes_31 : decode cX2_packBytes 31 = .ok (.goto 12, 3) := by decide +kernel
theorem dX2_packBytes_34 : decode cX2_packBytes 34 = .ok (.aload_n 0, 1) := by decide +kernel
theorem dX2_packBytes_35 : decode cX2_packBytes 35 = .ok (.iload 5, 2) := by decide +kernel
theorem dX2_packBytes_37 : decode cX2_packBytes 37 = .ok (.iload_n 2, 1) := by decide +kernel
theorem dX2_packBytes_38 : decode cX2_packBytes 38 = .ok (.iload 6, 2) := by decide +kernel
theorem dX2_packBytes_40 : decode cX2_packBytes 40 = .ok (.invokevirtual 68, 3) := by decide +kernel
theorem dX2_packBytes_43 : decode cX2_packBytes 43 = .ok (.istore 4, 2) := by decide +kernel
theorem dX2_packBytes_45 : decode cX2_packBytes 45 = .ok (.iload 6, 2) := by decide +kernel
theorem dX2_packBytes_47 : decode cX2_packBytes 47 = .ok (.ifCond .ne 19, 3) := by decide +kernel
theorem dX2_packBytes_50 : decode cX2_packBytes 50 = .ok (.aload_n 0, 1) := by decide +kernel
theorem dX2_packBytes_51 : decode cX2_packBytes 51 = .ok (.aload_n 0, 1) := by decide +kernel
theorem dX2_packBytes_52 : decode cX2_packBytes 52 = .ok (.getfield 21, 3) := by decide +kernel
theorem dX2_packBytes_55 : decode cX2_packBytes 55 = .ok (.iload 5, 2) := by decide +kernel
theorem dX2_packBytes_57 : decode cX2_packBytes 57 = .ok (.invokevirtual 72, 3) := by decide +kernel
theorem dX2_packBytes_60 : decode cX2_packBytes 60 = .ok (.invokevirtual 75, 3) := by decide +kernel
theorem dX2_packBytes_63 : decode cX2_packBytes 63 = .ok (.goto 11, 3) := by decide +kernel
theorem dX2_packBytes_66 : decode cX2_packBytes 66 = .ok (.aload_n 0, 1) := by decide +kernel
theorem dX2_packBytes_67 : decode cX2_packBytes 67 = .ok (.iload 4, 2) := by decide +kernel
theorem dX2_packBytes_69 : decode cX2_packBytes 69 = .ok (.iload 6, 2) := by decide +kernel
theorem dX2_packBytes_71 : decode cX2_packBytes 71 = .ok (.invokevirtual 79, 3) := by decide +kernel
theorem dX2_packBytes_74 : decode cX2_packBytes 74 = .ok (.iinc 3 1, 3) := by decide +kernel
theorem dX2_packBytes_77 : decode cX2_packBytes 77 = .ok (.iload 5, 2) := by decide +kernel
theorem dX2_packBytes_79 : decode cX2_packBytes 79 = .ok (.iconst 1, 1) := by decide +kernel
theorem dX2_packBytes_80 : decode cX2_packBytes 80 = .ok (.iload 4, 2) := by decide +kernel
theorem dX2_packBytes_82 : decode cX2_packBytes 82 = .ok (.invokestatic 83, 3) := by decide +kernel
theorem dX2_packBytes_85 : decode cX2_packBytes 85 = .ok (.iadd, 1) := by decide +kernel
theorem dX2_packBytes_86 : decode cX2_packBytes 86 = .ok (.istore 5, 2) := by decide +kernel
theorem dX2_packBytes_88 : decode cX2_packBytes 88 = .ok (.goto (-78), 3) := by decide +kernel
theorem dX2_packBytes_91 : decode cX2_packBytes 91 = .ok (.aload_n 0, 1) := by decide +kernel
theorem dX2_packBytes_92 : decode cX2_packBytes 92 = .ok (.iconst 0, 1) := by decide +kernel
theorem dX2_packBytes_93 : decode cX2_packBytes 93 = .ok (.invokevirtual 88, 3) := by decide +kernel
theorem dX2_packBytes_96 : decode cX2_packBytes 96 = .ok (.iload_n 3, 1) := by decide +kernel
theorem dX2_packBytes_97 : decode cX2_packBytes 97 = .ok (.ireturn, 1) := by decide +kernel
set_option maxRecDepth 20000 in
theorem ggX2_bestDistance_X5_window : GoodIn wsX2_bestDistance wsX5_window := goodIn_r _ [10, 11, 34, 35, 36, 37] (by decide +kernel) (by decide +kernel)
set_option maxRecDepth 20000 in
theorem gX2_bestDistance_X5_window : GoodIn wsX2_bestDistance (wsV RX2 91 RX5 yX5_window wsX5_window) := goodIn_app (goodIn_of _ (by decide +kernel)) ggX2_bestDistance_X5_window
set_option maxRecDepth 20000 in
theorem ggX2_bestDistance_X2_alike : GoodIn wsX2_bestDistance wsX2_alike := goodIn_r _ [16, 17, 18, 19, 20, 21, 22, 23, 24, 25, 26, 27, 28, 29, 30, 31, 32, 33, 38, 39] (by decide +kernel) (by decide +kernel)
set_option maxRecDepth 20000 in
theorem gX2_bestDistance_X2_alike : GoodIn wsX2_bestDistance (wsV RX2 68 RX2 yX2_alike wsX2_alike) := goodIn_app (goodIn_of _ (by decide +kernel)) ggX2_bestDistance_X2_alike
theorem dX2_bestDistance_0 : decode cX2_bestDistance 0 = .ok (.iconst 0, 1) := by decide +kernel
theorem dX2_bestDistance_1 : decode cX2_bestDistance 1 = .ok (.istore_n 3, 1) := by decide +kernel
theorem dX2_bestDistance_2 : decode cX2_bestDistance 2 = .ok (.iconst 2, 1) := by decide +kernel
theorem dX2_bestDistance_3 : decode cX2_bestDistance 3 = .ok (.istore 4, 2) := by decide +kernel
theorem dX2_bestDistance_5 : decode cX2_bestDistance 5 = .ok (.aload_n 0, 1) := by decide +kernel
theorem dX2_bestDistance_6 : decode cX2_bestDistance 6 = .ok (.getfield 25, 3) := by decide +kernel
theorem dX2_bestDistance_9 : decode cX2_bestDistance 9 = .ok (.invokevirtual 91, 3) := by decide +kernel
theorem dX2_bestDistance_12 : decode cX2_bestDistance 12 = .ok (.iload_n 1, 1) := by decide +kernel
theorem dX2_bestDistance_13 : decode cX2_bestDistance 13 = .ok (.invokestatic 94, 3) := by decide +kernel
theorem dX2_bestDistance_16 : decode cX2_bestDistance 16 = .ok (.istore 5, 2) := by decide +kernel
theorem dX2_bestDistance_18 : decode cX2_bestDistance 18 = .ok (.iconst 1, 1) := by decide +kernel
theorem dX2_bestDistance_19 : decode cX2_bestDistance 19 = .ok (.istore 6, 2) := by decide +kernel
theorem dX2_bestDistance_21 : decode cX2_bestDistance 21 = .ok (.iload 6, 2) := by decide +kernel
theorem dX2_bestDistance_23 : decode cX2_bestDistance 23 = .ok (.iload 5, 2) := by decide +kernel
theorem dX2_bestDistance_25 : decode cX2_bestDistance 25 = .ok (.if_icmp .gt 41, 3) := by decide +kernel
theorem dX2_bestDistance_28 : decode cX2_bestDistance 28 = .ok (.iload 4, 2) := by decide +kernel
theorem dX2_bestDistance_30 : decode cX2_bestDistance 30 = .ok (.iload_n 2, 1) := by decide +kernel
theorem dX2_bestDistance_31 : decode cX2_bestDistance 31 = .ok (.iload_n 1, 1) := by decide +kernel
theorem dX2_bestDistance_32 : decode cX2_bestDistance 32 = .ok (.isub, 1) := by decide +kernel
theorem dX2_bestDistance_33 : decode cX2_bestDistance 33 = .ok (.if_icmp .ge 33, 3) := by decide +kernel
theorem dX2_bestDistance_36 : decode cX2_bestDistance 36 = .ok (.aload_n 0, 1) := by decide +kernel
theorem dX2_bestDistance_37 : decode cX2_bestDistance 37 = .ok (.iload_n 1, 1) := by decide +kernel
theorem dX2_bestDistance_38 : decode cX2_bestDistance 38 = .ok (.iload_n 2, 1) := by decide +kernel
theorem dX2_bestDistance_39 : decode cX2_bestDistance 39 = .ok (.iload 6, 2) := by decide +kernel
theorem dX2_bestDistance_41 : decode cX2_bestDistance 41 = .ok (.invokevirtual 68, 3) := by decide +kernel
theorem dX2_bestDistance_44 : decode cX2_bestDistance 44 = .ok (.istore 7, 2) := by decide +kernel
theorem dX2_bestDistance_46 : decode cX2_bestDistance 46 = .ok (.iload 7, 2) := by decide +kernel
theorem dX2_bestDistance_48 : decode cX2_bestDistance 48 = .ok (.iload 4, 2) := by decide +kernel
theorem dX2_bestDistance_50 : decode cX2_bestDistance 50 = .ok (.if_icmp .le 10, 3) := by decide +kernel
theorem dX2_bestDistance_53 : decode cX2_bestDistance 53 = .ok (.iload 7, 2) := by decide +kernel
theorem dX2_bestDistance_55 : decode cX2_bestDistance 55 = .ok (.istore 4, 2) := by decide +kernel
theorem dX2_bestDistance_57 : decode cX2_bestDistance 57 = .ok (.iload 6, 2) := by decide +kernel
theorem dX2_bestDistance_59 : decode cX2_bestDistance 59 = .ok (.istore_n 3, 1) := by decide +kernel
theorem dX2_bestDistance_60 : decode cX2_bestDistance 60 = .ok (.iinc 6 1, 3) := by decide +kernel
theorem dX2_bestDistance_63 : decode cX2_bestDistance 63 = .ok (.goto (-42), 3) := by decide +kernel
theorem dX2_bestDistance_66 : decode cX2_bestDistance 66 = .ok (.iload_n 3, 1) := by decide +kernel
theorem dX2_bestDistance_67 : decode cX2_bestDistance 67 = .ok (.ireturn, 1) := by decide +kernel
set_option maxRecDepth 20000 in
theorem ggX2_alike_X7_at : GoodIn wsX2_alike wsX7_at := goodIn_r _ [6, 7, 8, 18, 19] (by decide +kernel) (by decide +kernel)
set_option maxRecDepth 20000 in
theorem gX2_alike_X7_at : GoodIn wsX2_alike (wsV RX2 72 RX7 yX7_at wsX7_at) := goodIn_app (goodIn_of _ (by decide +kernel)) ggX2_alike_X7_at
theorem dX2_alike_0 : decode cX2_alike 0 = .ok (.iload_n 1, 1) := by decide +kernel
theorem dX2_alike_1 : decode cX2_alike 1 = .ok (.istore 4, 2) := by decide +kernel
theorem dX2_alike_3 : decode cX2_alike 3 = .ok (.iload 4, 2) := by decide +kernel
theorem dX2_alike_5 : decode cX2_alike 5 = .ok (.iload_n 2, 1) := by decide +kernel
theorem dX2_alike_6 : decode cX2_alike 6 = .ok (.if_icmp .ge 32, 3) := by decide +kernel
theorem dX2_alike_9 : decode cX2_alike 9 = .ok (.aload_n 0, 1) := by decide +kernel
theorem dX2_alike_10 : decode cX2_alike 10 = .ok (.getfield 21, 3) := by decide +kernel
theorem dX2_alike_13 : decode cX2_alike 13 = .ok (.iload 4, 2) := by decide +kernel
theorem dX2_alike_15 : decode cX2_alike 15 = .ok (.invokevirtual 72, 3) := by decide +kernel
theorem dX2_alike_18 : decode cX2_alike 18 = .ok (.aload_n 0, 1) := by decide +kernel
theorem dX2_alike_19 : decode cX2_alike 19 = .ok (.getfield 21, 3) := by decide +kernel
theorem dX2_alike_22 : decode cX2_alike 22 = .ok (.iload 4, 2) := by decide +kernel
theorem dX2_alike_24 : decode cX2_alike 24 = .ok (.iload_n 3, 1) := by decide +kernel
theorem dX2_alike_25 : decode cX2_alike 25 = .ok (.isub, 1) := by decide +kernel
theorem dX2_alike_26 : decode cX2_alike 26 = .ok (.invokevirtual 72, 3) := by decide +kernel
theorem dX2_alike_29 : decode cX2_alike 29 = .ok (.if_icmp .ne 9, 3) := by decide +kernel
theorem dX2_alike_32 : decode cX2_alike 32 = .ok (.iinc 4 1, 3) := by decide +kernel
theorem dX2_alike_35 : decode cX2_alike 35 = .ok (.goto (-32), 3) := by decide +kernel
theorem dX2_alike_38 : decode cX2_alike 38 = .ok (.iload 4, 2) := by decide +kernel
theorem dX2_alike_40 : decode cX2_alike 40 = .ok (.iload_n 1, 1) := by decide +kernel
theorem dX2_alike_41 : decode cX2_alike 41 = .ok (.isub, 1) := by decide +kernel
theorem dX2_alike_42 : decode cX2_alike 42 = .ok (.ireturn, 1) := by decide +kernel
set_option maxRecDepth 20000 in
theorem ggX2_putByte_X2_put : GoodIn wsX2_putByte wsX2_put := goodIn_r _ [8, 2, 3, 9, 10, 11, 12, 13, 14, 15, 16, 17] (by decide +kernel) (by decide +kernel)
set_option maxRecDepth 20000 in
theorem gX2_putByte_X2_put : GoodIn wsX2_putByte (wsV RX2 88 RX2 yX2_put wsX2_put) := goodIn_app (goodIn_of _ (by decide +kernel)) ggX2_putByte_X2_put
theorem dX2_putByte_0 : decode cX2_putByte 0 = .ok (.aload_n 0, 1) := by decide +kernel
theorem dX2_putByte_1 : decode cX2_putByte 1 = .ok (.getfield 62, 3) := by decide +kernel
theorem dX2_putByte_4 : decode cX2_putByte 4 = .ok (.iconst (-1), 1) := by decide +kernel
theorem dX2_putByte_5 : decode cX2_putByte 5 = .ok (.if_icmp .ne 16, 3) := by decide +kernel
theorem dX2_putByte_8 : decode cX2_putByte 8 = .ok (.aload_n 0, 1) := by decide +kernel
theorem dX2_putByte_9 : decode cX2_putByte 9 = .ok (.aload_n 0, 1) := by decide +kernel
theorem dX2_putByte_10 : decode cX2_putByte 10 = .ok (.getfield 33, 3) := by decide +kernel
theorem dX2_putByte_13 : decode cX2_putByte 13 = .ok (.putfield 62, 3) := by decide +kernel
theorem dX2_putByte_16 : decode cX2_putByte 16 = .ok (.aload_n 0, 1) := by decide +kernel
theorem dX2_putByte_17 : decode cX2_putByte 17 = .ok (.iconst 0, 1) := by decide +kernel
theorem dX2_putByte_18 : decode cX2_putByte 18 = .ok (.invokevirtual 88, 3) := by decide +kernel
theorem dX2_putByte_21 : decode cX2_putByte 21 = .ok (.aload_n 0, 1) := by decide +kernel
theorem dX2_putByte_22 : decode cX2_putByte 22 = .ok (.getfield 62, 3) := by decide +kernel
theorem dX2_putByte_25 : decode cX2_putByte 25 = .ok (.ifCond .lt 28, 3) := by decide +kernel
theorem dX2_putByte_28 : decode cX2_putByte 28 = .ok (.aload_n 0, 1) := by decide +kernel
theorem dX2_putByte_29 : decode cX2_putByte 29 = .ok (.getfield 62, 3) := by decide +kernel
theorem dX2_putByte_32 : decode cX2_putByte 32 = .ok (.aload_n 0, 1) := by decide +kernel
theorem dX2_putByte_33 : decode cX2_putByte 33 = .ok (.getfield 9, 3) := by decide +kernel
theorem dX2_putByte_36 : decode cX2_putByte 36 = .ok (.arraylength, 1) := by decide +kernel
theorem dX2_putByte_37 : decode cX2_putByte 37 = .ok (.if_icmp .ge 16, 3) := by decide +kernel
theorem dX2_putByte_40 : decode cX2_putByte 40 = .ok (.aload_n 0, 1) := by decide +kernel
theorem dX2_putByte_41 : decode cX2_putByte 41 = .ok (.getfield 9, 3) := by decide +kernel
theorem dX2_putByte_44 : decode cX2_putByte 44 = .ok (.aload_n 0, 1) := by decide +kernel
theorem dX2_putByte_45 : decode cX2_putByte 45 = .ok (.getfield 62, 3) := by decide +kernel
theorem dX2_putByte_48 : decode cX2_putByte 48 = .ok (.dup2, 1) := by decide +kernel
theorem dX2_putByte_49 : decode cX2_putByte 49 = .ok (.iaload, 1) := by decide +kernel
theorem dX2_putByte_50 : decode cX2_putByte 50 = .ok (.iconst 1, 1) := by decide +kernel
theorem dX2_putByte_51 : decode cX2_putByte 51 = .ok (.iadd, 1) := by decide +kernel
theorem dX2_putByte_52 : decode cX2_putByte 52 = .ok (.iastore, 1) := by decide +kernel
theorem dX2_putByte_53 : decode cX2_putByte 53 = .ok (.aload_n 0, 1) := by decide +kernel
theorem dX2_putByte_54 : decode cX2_putByte 54 = .ok (.iload_n 1, 1) := by decide +kernel
theorem dX2_putByte_55 : decode cX2_putByte 55 = .ok (.invokevirtual 88, 3) := by decide +kernel
theorem dX2_putByte_58 : decode cX2_putByte 58 = .ok (.return_, 1) := by decide +kernel
set_option maxRecDepth 20000 in
theorem ggX2_putCopy_X2_put : GoodIn wsX2_putCopy wsX2_put := goodIn_r _ [6, 7, 8, 9, 10, 11, 12, 13, 14, 15, 16, 17] (by decide +kernel) (by decide +kernel)
set_option maxRecDepth 20000 in
theorem gX2_putCopy_X2_put : GoodIn wsX2_putCopy (wsV RX2 88 RX2 yX2_put wsX2_put) := goodIn_app (goodIn_of _ (by decide +kernel)) ggX2_putCopy_X2_put
theorem dX2_putCopy_0 : decode cX2_putCopy 0 = .ok (.aload_n 0, 1) := by decide +kernel
theorem dX2_putCopy_1 : decode cX2_putCopy 1 = .ok (.sipush 128, 3) := by decide +kernel
theorem dX2_putCopy_4 : decode cX2_putCopy 4 = .ok (.iload_n 1, 1) := by decide +kernel
theorem dX2_putCopy_5 : decode cX2_putCopy 5 = .ok (.iadd, 1) := by decide +kernel
theorem dX2_putCopy_6 : decode cX2_putCopy 6 = .ok (.iconst 3, 1) := by decide +kernel
theorem dX2_putCopy_7 : decode cX2_putCopy 7 = .ok (.isub, 1) := by decide +kernel
theorem dX2_putCopy_8 : decode cX2_putCopy 8 = .ok (.invokevirtual 88, 3) := by decide +kernel
theorem dX2_putCopy_11 : decode cX2_putCopy 11 = .ok (.aload_n 0, 1) := by decide +kernel
theorem dX2_putCopy_12 : decode cX2_putCopy 12 = .ok (.iload_n 2, 1) := by decide +kernel
theorem dX2_putCopy_13 : decode cX2_putCopy 13 = .ok (.iconst 1, 1) := by decide +kernel
theorem dX2_putCopy_14 : decode cX2_putCopy 14 = .ok (.isub, 1) := by decide +kernel
theorem dX2_putCopy_15 : decode cX2_putCopy 15 = .ok (.invokevirtual 88, 3) := by decide +kernel
theorem dX2_putCopy_18 : decode cX2_putCopy 18 = .ok (.aload_n 0, 1) := by decide +kernel
theorem dX2_putCopy_19 : decode cX2_putCopy 19 = .ok (.iconst (-1), 1) := by decide +kernel
theorem dX2_putCopy_20 : decode cX2_putCopy 20 = .ok (.putfield 62, 3) := by decide +kernel
theorem dX2_putCopy_23 : decode cX2_putCopy 23 = .ok (.return_, 1) := by decide +kernel
theorem dX2_put_0 : decode cX2_put 0 = .ok (.aload_n 0, 1) := by decide +kernel
theorem dX2_put_1 : decode cX2_put 1 = .ok (.getfield 33, 3) := by decide +kernel
theorem dX2_put_4 : decode cX2_put 4 = .ok (.ifCond .lt 35, 3) := by decide +kernel
theorem dX2_put_7 : decode cX2_put 7 = .ok (.aload_n 0, 1) := by decide +kernel
theorem dX2_put_8 : decode cX2_put 8 = .ok (.getfield 33, 3) := by decide +kernel
theorem dX2_put_11 : decode cX2_put 11 = .ok (.aload_n 0, 1) := by decide +kernel
theorem dX2_put_12 : decode cX2_put 12 = .ok (.getfield 9, 3) := by decide +kernel
theorem dX2_put_15 : decode cX2_put 15 = .ok (.arraylength, 1) := by decide +kernel
theorem dX2_put_16 : decode cX2_put 16 = .ok (.if_icmp .ge 23, 3) := by decide +kernel
theorem dX2_put_19 : decode cX2_put 19 = .ok (.aload_n 0, 1) := by decide +kernel
theorem dX2_put_20 : decode cX2_put 20 = .ok (.getfield 9, 3) := by decide +kernel
theorem dX2_put_23 : decode cX2_put 23 = .ok (.aload_n 0, 1) := by decide +kernel
theorem dX2_put_24 : decode cX2_put 24 = .ok (.getfield 33, 3) := by decide +kernel
theorem dX2_put_27 : decode cX2_put 27 = .ok (.iload_n 1, 1) := by decide +kernel
theorem dX2_put_28 : decode cX2_put 28 = .ok (.iastore, 1) := by decide +kernel
theorem dX2_put_29 : decode cX2_put 29 = .ok (.aload_n 0, 1) := by decide +kernel
theorem dX2_put_30 : decode cX2_put 30 = .ok (.dup, 1) := by decide +kernel
theorem dX2_put_31 : decode cX2_put 31 = .ok (.getfield 33, 3) := by decide +kernel
theorem dX2_put_34 : decode cX2_put 34 = .ok (.iconst 1, 1) := by decide +kernel
theorem dX2_put_35 : decode cX2_put 35 = .ok (.iadd, 1) := by decide +kernel
theorem dX2_put_36 : decode cX2_put 36 = .ok (.putfield 33, 3) := by decide +kernel
theorem dX2_put_39 : decode cX2_put 39 = .ok (.return_, 1) := by decide +kernel
theorem dX2_blocks_0 : decode cX2_blocks 0 = .ok (.aload_n 0, 1) := by decide +kernel
theorem dX2_blocks_1 : decode cX2_blocks 1 = .ok (.getfield 41, 3) := by decide +kernel
theorem dX2_blocks_4 : decode cX2_blocks 4 = .ok (.ireturn, 1) := by decide +kernel
set_option maxRecDepth 20000 in
theorem ggX2_bytesOf_X5_size : GoodIn wsX2_bytesOf wsX5_size := goodIn_r _ [14, 15, 31, 32, 33, 34] (by decide +kernel) (by decide +kernel)
set_option maxRecDepth 20000 in
theorem gX2_bytesOf_X5_size : GoodIn wsX2_bytesOf (wsV RX2 44 RX5 yX5_size wsX5_size) := goodIn_app (goodIn_of _ (by decide +kernel)) ggX2_bytesOf_X5_size
set_option maxRecDepth 20000 in
theorem ggX2_bytesOf_X7_length : GoodIn wsX2_bytesOf wsX7_length := goodIn_r _ [20, 21, 35, 36] (by decide +kernel) (by decide +kernel)
set_option maxRecDepth 20000 in
theorem gX2_bytesOf_X7_length : GoodIn wsX2_bytesOf (wsV RX2 57 RX7 yX7_length wsX7_length) := goodIn_app (goodIn_of _ (by decide +kernel)) ggX2_bytesOf_X7_length
theorem dX2_bytesOf_0 : decode cX2_bytesOf 0 = .ok (.aload_n 0, 1) := by decide +kernel
theorem dX2_bytesOf_1 : decode cX2_bytesOf 1 = .ok (.getfield 25, 3) := by decide +kernel
theorem dX2_bytesOf_4 : decode cX2_bytesOf 4 = .ok (.invokevirtual 44, 3) := by decide +kernel
theorem dX2_bytesOf_7 : decode cX2_bytesOf 7 = .ok (.istore_n 2, 1) := by decide +kernel
theorem dX2_bytesOf_8 : decode cX2_bytesOf 8 = .ok (.iconst 0, 1) := by decide +kernel
theorem dX2_bytesOf_9 : decode cX2_bytesOf 9 = .ok (.iload_n 2, 1) := by decide +kernel
theorem dX2_bytesOf_10 : decode cX2_bytesOf 10 = .ok (.aload_n 0, 1) := by decide +kernel
theorem dX2_bytesOf_11 : decode cX2_bytesOf 11 = .ok (.getfield 21, 3) := by decide +kernel
theorem dX2_bytesOf_14 : decode cX2_bytesOf 14 = .ok (.invokevirtual 57, 3) := by decide +kernel
theorem dX2_bytesOf_17 : decode cX2_bytesOf 17 = .ok (.iload_n 1, 1) := by decide +kernel
theorem dX2_bytesOf_18 : decode cX2_bytesOf 18 = .ok (.iload_n 2, 1) := by decide +kernel
theorem dX2_bytesOf_19 : decode cX2_bytesOf 19 = .ok (.imul, 1) := by decide +kernel
theorem dX2_bytesOf_20 : decode cX2_bytesOf 20 = .ok (.isub, 1) := by decide +kernel
theorem dX2_bytesOf_21 : decode cX2_bytesOf 21 = .ok (.invokestatic 94, 3) := by decide +kernel
theorem dX2_bytesOf_24 : decode cX2_bytesOf 24 = .ok (.invokestatic 83, 3) := by decide +kernel
theorem dX2_bytesOf_27 : decode cX2_bytesOf 27 = .ok (.ireturn, 1) := by decide +kernel
theorem dX2_tokensOf_0 : decode cX2_tokensOf 0 = .ok (.iload_n 1, 1) := by decide +kernel
theorem dX2_tokensOf_1 : decode cX2_tokensOf 1 = .ok (.ifCond .lt 21, 3) := by decide +kernel
theorem dX2_tokensOf_4 : decode cX2_tokensOf 4 = .ok (.iload_n 1, 1) := by decide +kernel
theorem dX2_tokensOf_5 : decode cX2_tokensOf 5 = .ok (.aload_n 0, 1) := by decide +kernel
theorem dX2_tokensOf_6 : decode cX2_tokensOf 6 = .ok (.getfield 18, 3) := by decide +kernel
theorem dX2_tokensOf_9 : decode cX2_tokensOf 9 = .ok (.arraylength, 1) := by decide +kernel
theorem dX2_tokensOf_10 : decode cX2_tokensOf 10 = .ok (.if_icmp .ge 12, 3) := by decide +kernel
theorem dX2_tokensOf_13 : decode cX2_tokensOf 13 = .ok (.aload_n 0, 1) := by decide +kernel
theorem dX2_tokensOf_14 : decode cX2_tokensOf 14 = .ok (.getfield 18, 3) := by decide +kernel
theorem dX2_tokensOf_17 : decode cX2_tokensOf 17 = .ok (.iload_n 1, 1) := by decide +kernel
theorem dX2_tokensOf_18 : decode cX2_tokensOf 18 = .ok (.iaload, 1) := by decide +kernel
theorem dX2_tokensOf_19 : decode cX2_tokensOf 19 = .ok (.goto 4, 3) := by decide +kernel
theorem dX2_tokensOf_22 : decode cX2_tokensOf 22 = .ok (.iconst 0, 1) := by decide +kernel
theorem dX2_tokensOf_23 : decode cX2_tokensOf 23 = .ok (.ireturn, 1) := by decide +kernel
theorem dX2_byteAt_0 : decode cX2_byteAt 0 = .ok (.iload_n 1, 1) := by decide +kernel
theorem dX2_byteAt_1 : decode cX2_byteAt 1 = .ok (.ifCond .lt 29, 3) := by decide +kernel
theorem dX2_byteAt_4 : decode cX2_byteAt 4 = .ok (.iload_n 1, 1) := by decide +kernel
theorem dX2_byteAt_5 : decode cX2_byteAt 5 = .ok (.aload_n 0, 1) := by decide +kernel
theorem dX2_byteAt_6 : decode cX2_byteAt 6 = .ok (.getfield 33, 3) := by decide +kernel
theorem dX2_byteAt_9 : decode cX2_byteAt 9 = .ok (.if_icmp .ge 21, 3) := by decide +kernel
theorem dX2_byteAt_12 : decode cX2_byteAt 12 = .ok (.iload_n 1, 1) := by decide +kernel
theorem dX2_byteAt_13 : decode cX2_byteAt 13 = .ok (.aload_n 0, 1) := by decide +kernel
theorem dX2_byteAt_14 : decode cX2_byteAt 14 = .ok (.getfield 9, 3) := by decide +kernel
theorem dX2_byteAt_17 : decode cX2_byteAt 17 = .ok (.arraylength, 1) := by decide +kernel
theorem dX2_byteAt_18 : decode cX2_byteAt 18 = .ok (.if_icmp .ge 12, 3) := by decide +kernel
theorem dX2_byteAt_21 : decode cX2_byteAt 21 = .ok (.aload_n 0, 1) := by decide +kernel
theorem dX2_byteAt_22 : decode cX2_byteAt 22 = .ok (.getfield 9, 3) := by decide +kernel
theorem dX2_byteAt_25 : decode cX2_byteAt 25 = .ok (.iload_n 1, 1) := by decide +kernel
theorem dX2_byteAt_26 : decode cX2_byteAt 26 = .ok (.iaload, 1) := by decide +kernel
theorem dX2_byteAt_27 : decode cX2_byteAt 27 = .ok (.goto 4, 3) := by decide +kernel
theorem dX2_byteAt_30 : decode cX2_byteAt 30 = .ok (.iconst (-1), 1) := by decide +kernel
theorem dX2_byteAt_31 : decode cX2_byteAt 31 = .ok (.ireturn, 1) := by decide +kernel
theorem dX2_lengthOfFirst_0 : decode cX2_lengthOfFirst 0 = .ok (.iload_n 1, 1) := by decide +kernel
theorem dX2_lengthOfFirst_1 : decode cX2_lengthOfFirst 1 = .ok (.iconst 1, 1) := by decide +kernel
theorem dX2_lengthOfFirst_2 : decode cX2_lengthOfFirst 2 = .ok (.if_icmp .lt 23, 3) := by decide +kernel
theorem dX2_lengthOfFirst_5 : decode cX2_lengthOfFirst 5 = .ok (.iload_n 1, 1) := by decide +kernel
theorem dX2_lengthOfFirst_6 : decode cX2_lengthOfFirst 6 = .ok (.aload_n 0, 1) := by decide +kernel
theorem dX2_lengthOfFirst_7 : decode cX2_lengthOfFirst 7 = .ok (.getfield 15, 3) := by decide +kernel
theorem dX2_lengthOfFirst_10 : decode cX2_lengthOfFirst 10 = .ok (.arraylength, 1) := by decide +kernel
theorem dX2_lengthOfFirst_11 : decode cX2_lengthOfFirst 11 = .ok (.if_icmp .gt 14, 3) := by decide +kernel
theorem dX2_lengthOfFirst_14 : decode cX2_lengthOfFirst 14 = .ok (.aload_n 0, 1) := by decide +kernel
theorem dX2_lengthOfFirst_15 : decode cX2_lengthOfFirst 15 = .ok (.getfield 15, 3) := by decide +kernel
theorem dX2_lengthOfFirst_18 : decode cX2_lengthOfFirst 18 = .ok (.iload_n 1, 1) := by decide +kernel
theorem dX2_lengthOfFirst_19 : decode cX2_lengthOfFirst 19 = .ok (.iconst 1, 1) := by decide +kernel
theorem dX2_lengthOfFirst_20 : decode cX2_lengthOfFirst 20 = .ok (.isub, 1) := by decide +kernel
theorem dX2_lengthOfFirst_21 : decode cX2_lengthOfFirst 21 = .ok (.iaload, 1) := by decide +kernel
theorem dX2_lengthOfFirst_22 : decode cX2_lengthOfFirst 22 = .ok (.goto 4, 3) := by decide +kernel
theorem dX2_lengthOfFirst_25 : decode cX2_lengthOfFirst 25 = .ok (.iconst 0, 1) := by decide +kernel
theorem dX2_lengthOfFirst_26 : decode cX2_lengthOfFirst 26 = .ok (.ireturn, 1) := by decide +kernel
theorem dX3_init_0 : decode cX3_init 0 = .ok (.aload_n 0, 1) := by decide +kernel
theorem dX3_init_1 : decode cX3_init 1 = .ok (.invokespecial 3, 3) := by decide +kernel
theorem dX3_init_4 : decode cX3_init 4 = .ok (.aload_n 0, 1) := by decide +kernel
theorem dX3_init_5 : decode cX3_init 5 = .ok (.bipush 40, 2) := by decide +kernel
theorem dX3_init_7 : decode cX3_init 7 = .ok (.newarray .int, 2) := by decide +kernel
theorem dX3_init_9 : decode cX3_init 9 = .ok (.putfield 9, 3) := by decide +kernel
theorem dX3_init_12 : decode cX3_init 12 = .ok (.aload_n 0, 1) := by decide +kernel
theorem dX3_init_13 : decode cX3_init 13 = .ok (.bipush 40, 2) := by decide +kernel
theorem dX3_init_15 : decode cX3_init 15 = .ok (.newarray .int, 2) := by decide +kernel
theorem dX3_init_17 : decode cX3_init 17 = .ok (.putfield 15, 3) := by decide +kernel
theorem dX3_init_20 : decode cX3_init 20 = .ok (.aload_n 0, 1) := by decide +kernel
theorem dX3_init_21 : decode cX3_init 21 = .ok (.bipush 40, 2) := by decide +kernel
theorem dX3_init_23 : decode cX3_init 23 = .ok (.newarray .boolean, 2) := by decide +kernel
theorem dX3_init_25 : decode cX3_init 25 = .ok (.putfield 18, 3) := by decide +kernel
theorem dX3_init_28 : decode cX3_init 28 = .ok (.return_, 1) := by decide +kernel
theorem dX3_put_0 : decode cX3_put 0 = .ok (.iload_n 1, 1) := by decide +kernel
theorem dX3_put_1 : decode cX3_put 1 = .ok (.ifCond .lt 31, 3) := by decide +kernel
theorem dX3_put_4 : decode cX3_put 4 = .ok (.iload_n 1, 1) := by decide +kernel
theorem dX3_put_5 : decode cX3_put 5 = .ok (.bipush 40, 2) := by decide +kernel
theorem dX3_put_7 : decode cX3_put 7 = .ok (.if_icmp .ge 25, 3) := by decide +kernel
theorem dX3_put_10 : decode cX3_put 10 = .ok (.aload_n 0, 1) := by decide +kernel
theorem dX3_put_11 : decode cX3_put 11 = .ok (.getfield 9, 3) := by decide +kernel
theorem dX3_put_14 : decode cX3_put 14 = .ok (.iload_n 1, 1) := by decide +kernel
theorem dX3_put_15 : decode cX3_put 15 = .ok (.iload_n 2, 1) := by decide +kernel
theorem dX3_put_16 : decode cX3_put 16 = .ok (.iastore, 1) := by decide +kernel
theorem dX3_put_17 : decode cX3_put 17 = .ok (.aload_n 0, 1) := by decide +kernel
theorem dX3_put_18 : decode cX3_put 18 = .ok (.getfield 15, 3) := by decide +kernel
theorem dX3_put_21 : decode cX3_put 21 = .ok (.iload_n 1, 1) := by decide +kernel
theorem dX3_put_22 : decode cX3_put 22 = .ok (.iload_n 3, 1) := by decide +kernel
theorem dX3_put_23 : decode cX3_put 23 = .ok (.iastore, 1) := by decide +kernel
theorem dX3_put_24 : decode cX3_put 24 = .ok (.aload_n 0, 1) := by decide +kernel
theorem dX3_put_25 : decode cX3_put 25 = .ok (.getfield 18, 3) := by decide +kernel
theorem dX3_put_28 : decode cX3_put 28 = .ok (.iload_n 1, 1) := by decide +kernel
theorem dX3_put_29 : decode cX3_put 29 = .ok (.iload 4, 2) := by decide +kernel
theorem dX3_put_31 : decode cX3_put 31 = .ok (.bastore, 1) := by decide +kernel
theorem dX3_put_32 : decode cX3_put 32 = .ok (.return_, 1) := by decide +kernel
theorem dX3_kindAt_0 : decode cX3_kindAt 0 = .ok (.iload_n 1, 1) := by decide +kernel
theorem dX3_kindAt_1 : decode cX3_kindAt 1 = .ok (.ifCond .lt 19, 3) := by decide +kernel
theorem dX3_kindAt_4 : decode cX3_kindAt 4 = .ok (.iload_n 1, 1) := by decide +kernel
theorem dX3_kindAt_5 : decode cX3_kindAt 5 = .ok (.bipush 40, 2) := by decide +kernel
theorem dX3_kindAt_7 : decode cX3_kindAt 7 = .ok (.if_icmp .ge 13, 3) := by decide +kernel
theorem dX3_kindAt_10 : decode cX3_kindAt 10 = .ok (.aload_n 0, 1) := by decide +kernel
theorem dX3_kindAt_11 : decode cX3_kindAt 11 = .ok (.getfield 9, 3) := by decide +kernel
theorem dX3_kindAt_14 : decode cX3_kindAt 14 = .ok (.iload_n 1, 1) := by decide +kernel
theorem dX3_kindAt_15 : decode cX3_kindAt 15 = .ok (.iaload, 1) := by decide +kernel
theorem dX3_kindAt_16 : decode cX3_kindAt 16 = .ok (.iload_n 2, 1) := by decide +kernel
theorem dX3_kindAt_17 : decode cX3_kindAt 17 = .ok (.if_icmp .eq 5, 3) := by decide +kernel
theorem dX3_kindAt_20 : decode cX3_kindAt 20 = .ok (.iconst 0, 1) := by decide +kernel
theorem dX3_kindAt_21 : decode cX3_kindAt 21 = .ok (.ireturn, 1) := by decide +kernel
theorem dX3_kindAt_22 : decode cX3_kindAt 22 = .ok (.iload_n 3, 1) := by decide +kernel
theorem dX3_kindAt_23 : decode cX3_kindAt 23 = .ok (.ifCond .eq 16, 3) := by decide +kernel
theorem dX3_kindAt_26 : decode cX3_kindAt 26 = .ok (.aload_n 0, 1) := by decide +kernel
theorem dX3_kindAt_27 : decode cX3_kindAt 27 = .ok (.getfield 18, 3) := by decide +kernel
theorem dX3_kindAt_30 : decode cX3_kindAt 30 = .ok (.iload_n 1, 1) := by decide +kernel
theorem dX3_kindAt_31 : decode cX3_kindAt 31 = .ok (.baload, 1) := by decide +kernel
theorem dX3_kindAt_32 : decode cX3_kindAt 32 = .ok (.ifCond .ne 7, 3) := by decide +kernel
theorem dX3_kindAt_35 : decode cX3_kindAt 35 = .ok (.iconst 0, 1) := by decide +kernel
theorem dX3_kindAt_36 : decode cX3_kindAt 36 = .ok (.goto 9, 3) := by decide +kernel
theorem dX3_kindAt_39 : decode cX3_kindAt 39 = .ok (.aload_n 0, 1) := by decide +kernel
theorem dX3_kindAt_40 : decode cX3_kindAt 40 = .ok (.getfield 15, 3) := by decide +kernel
theorem dX3_kindAt_43 : decode cX3_kindAt 43 = .ok (.iload_n 1, 1) := by decide +kernel
theorem dX3_kindAt_44 : decode cX3_kindAt 44 = .ok (.iaload, 1) := by decide +kernel
theorem dX3_kindAt_45 : decode cX3_kindAt 45 = .ok (.ireturn, 1) := by decide +kernel
theorem dX3_removeAll_0 : decode cX3_removeAll 0 = .ok (.iconst 0, 1) := by decide +kernel
theorem dX3_removeAll_1 : decode cX3_removeAll 1 = .ok (.istore_n 1, 1) := by decide +kernel
theorem dX3_removeAll_2 : decode cX3_removeAll 2 = .ok (.iload_n 1, 1) := by decide +kernel
theorem dX3_removeAll_3 : decode cX3_removeAll 3 = .ok (.bipush 40, 2) := by decide +kernel
theorem dX3_removeAll_5 : decode cX3_removeAll 5 = .ok (.if_icmp .ge 16, 3) := by decide +kernel
theorem dX3_removeAll_8 : decode cX3_removeAll 8 = .ok (.aload_n 0, 1) := by decide +kernel
theorem dX3_removeAll_9 : decode cX3_removeAll 9 = .ok (.getfield 15, 3) := by decide +kernel
theorem dX3_removeAll_12 : decode cX3_removeAll 12 = .ok (.iload_n 1, 1) := by decide +kernel
theorem dX3_removeAll_13 : decode cX3_removeAll 13 = .ok (.iconst 0, 1) := by decide +kernel
theorem dX3_removeAll_14 : decode cX3_removeAll 14 = .ok (.iastore, 1) := by decide +kernel
theorem dX3_removeAll_15 : decode cX3_removeAll 15 = .ok (.iinc 1 1, 3) := by decide +kernel
theorem dX3_removeAll_18 : decode cX3_removeAll 18 = .ok (.goto (-16), 3) := by decide +kernel
theorem dX3_removeAll_21 : decode cX3_removeAll 21 = .ok (.return_, 1) := by decide +kernel
theorem dX4_init_0 : decode cX4_init 0 = .ok (.aload_n 0, 1) := by decide +kernel
theorem dX4_init_1 : decode cX4_init 1 = .ok (.invokespecial 3, 3) := by decide +kernel
theorem dX4_init_4 : decode cX4_init 4 = .ok (.aload_n 0, 1) := by decide +kernel
theorem dX4_init_5 : decode cX4_init 5 = .ok (.bipush 40, 2) := by decide +kernel
theorem dX4_init_7 : decode cX4_init 7 = .ok (.newarray .boolean, 2) := by decide +kernel
theorem dX4_init_9 : decode cX4_init 9 = .ok (.putfield 9, 3) := by decide +kernel
theorem dX4_init_12 : decode cX4_init 12 = .ok (.return_, 1) := by decide +kernel
theorem dX4_renew_0 : decode cX4_renew 0 = .ok (.iconst 0, 1) := by decide +kernel
theorem dX4_renew_1 : decode cX4_renew 1 = .ok (.istore_n 2, 1) := by decide +kernel
theorem dX4_renew_2 : decode cX4_renew 2 = .ok (.iload_n 2, 1) := by decide +kernel
theorem dX4_renew_3 : decode cX4_renew 3 = .ok (.aload_n 0, 1) := by decide +kernel
theorem dX4_renew_4 : decode cX4_renew 4 = .ok (.getfield 9, 3) := by decide +kernel
theorem dX4_renew_7 : decode cX4_renew 7 = .ok (.arraylength, 1) := by decide +kernel
theorem dX4_renew_8 : decode cX4_renew 8 = .ok (.if_icmp .ge 16, 3) := by decide +kernel
theorem dX4_renew_11 : decode cX4_renew 11 = .ok (.aload_n 0, 1) := by decide +kernel
theorem dX4_renew_12 : decode cX4_renew 12 = .ok (.getfield 9, 3) := by decide +kernel
theorem dX4_renew_15 : decode cX4_renew 15 = .ok (.iload_n 2, 1) := by decide +kernel
theorem dX4_renew_16 : decode cX4_renew 16 = .ok (.iconst 0, 1) := by decide +kernel
theorem dX4_renew_17 : decode cX4_renew 17 = .ok (.bastore, 1) := by decide +kernel
theorem dX4_renew_18 : decode cX4_renew 18 = .ok (.iinc 2 1, 3) := by decide +kernel
theorem dX4_renew_21 : decode cX4_renew 21 = .ok (.goto (-19), 3) := by decide +kernel
theorem dX4_renew_24 : decode cX4_renew 24 = .ok (.aload_n 0, 1) := by decide +kernel
theorem dX4_renew_25 : decode cX4_renew 25 = .ok (.iconst 0, 1) := by decide +kernel
theorem dX4_renew_26 : decode cX4_renew 26 = .ok (.putfield 15, 3) := by decide +kernel
theorem dX4_renew_29 : decode cX4_renew 29 = .ok (.aload_n 0, 1) := by decide +kernel
theorem dX4_renew_30 : decode cX4_renew 30 = .ok (.iload_n 1, 1) := by decide +kernel
theorem dX4_renew_31 : decode cX4_renew 31 = .ok (.putfield 19, 3) := by decide +kernel
theorem dX4_renew_34 : decode cX4_renew 34 = .ok (.aload_n 0, 1) := by decide +kernel
theorem dX4_renew_35 : decode cX4_renew 35 = .ok (.iconst 0, 1) := by decide +kernel
theorem dX4_renew_36 : decode cX4_renew 36 = .ok (.putfield 22, 3) := by decide +kernel
theorem dX4_renew_39 : decode cX4_renew 39 = .ok (.return_, 1) := by decide +kernel
theorem dX4_lay_0 : decode cX4_lay 0 = .ok (.iload_n 1, 1) := by decide +kernel
theorem dX4_lay_1 : decode cX4_lay 1 = .ok (.ifCond .lt 31, 3) := by decide +kernel
theorem dX4_lay_4 : decode cX4_lay 4 = .ok (.iload_n 1, 1) := by decide +kernel
theorem dX4_lay_5 : decode cX4_lay 5 = .ok (.aload_n 0, 1) := by decide +kernel
theorem dX4_lay_6 : decode cX4_lay 6 = .ok (.getfield 9, 3) := by decide +kernel
theorem dX4_lay_9 : decode cX4_lay 9 = .ok (.arraylength, 1) := by decide +kernel
theorem dX4_lay_10 : decode cX4_lay 10 = .ok (.if_icmp .ge 22, 3) := by decide +kernel
theorem dX4_lay_13 : decode cX4_lay 13 = .ok (.iload_n 1, 1) := by decide +kernel
theorem dX4_lay_14 : decode cX4_lay 14 = .ok (.aload_n 0, 1) := by decide +kernel
theorem dX4_lay_15 : decode cX4_lay 15 = .ok (.getfield 22, 3) := by decide +kernel
theorem dX4_lay_18 : decode cX4_lay 18 = .ok (.if_icmp .eq 16, 3) := by decide +kernel
theorem dX4_lay_21 : decode cX4_lay 21 = .ok (.aload_n 0, 1) := by decide +kernel
theorem dX4_lay_22 : decode cX4_lay 22 = .ok (.getfield 15, 3) := by decide +kernel
theorem dX4_lay_25 : decode cX4_lay 25 = .ok (.aload_n 0, 1) := by decide +kernel
theorem dX4_lay_26 : decode cX4_lay 26 = .ok (.getfield 19, 3) := by decide +kernel
theorem dX4_lay_29 : decode cX4_lay 29 = .ok (.if_icmp .lt 5, 3) := by decide +kernel
theorem dX4_lay_32 : decode cX4_lay 32 = .ok (.iconst 0, 1) := by decide +kernel
theorem dX4_lay_33 : decode cX4_lay 33 = .ok (.ireturn, 1) := by decide +kernel
theorem dX4_lay_34 : decode cX4_lay 34 = .ok (.aload_n 0, 1) := by decide +kernel
theorem dX4_lay_35 : decode cX4_lay 35 = .ok (.getfield 9, 3) := by decide +kernel
theorem dX4_lay_38 : decode cX4_lay 38 = .ok (.iload_n 1, 1) := by decide +kernel
theorem dX4_lay_39 : decode cX4_lay 39 = .ok (.iconst 1, 1) := by decide +kernel
theorem dX4_lay_40 : decode cX4_lay 40 = .ok (.bastore, 1) := by decide +kernel
theorem dX4_lay_41 : decode cX4_lay 41 = .ok (.aload_n 0, 1) := by decide +kernel
theorem dX4_lay_42 : decode cX4_lay 42 = .ok (.dup, 1) := by decide +kernel
theorem dX4_lay_43 : decode cX4_lay 43 = .ok (.getfield 15, 3) := by decide +kernel
theorem dX4_lay_46 : decode cX4_lay 46 = .ok (.iconst 1, 1) := by decide +kernel
theorem dX4_lay_47 : decode cX4_lay 47 = .ok (.iadd, 1) := by decide +kernel
theorem dX4_lay_48 : decode cX4_lay 48 = .ok (.putfield 15, 3) := by decide +kernel
theorem dX4_lay_51 : decode cX4_lay 51 = .ok (.aload_n 0, 1) := by decide +kernel
theorem dX4_lay_52 : decode cX4_lay 52 = .ok (.getfield 22, 3) := by decide +kernel
theorem dX4_lay_55 : decode cX4_lay 55 = .ok (.ifCond .lt 60, 3) := by decide +kernel
theorem dX4_lay_58 : decode cX4_lay 58 = .ok (.aload_n 0, 1) := by decide +kernel
theorem dX4_lay_59 : decode cX4_lay 59 = .ok (.getfield 22, 3) := by decide +kernel
theorem dX4_lay_62 : decode cX4_lay 62 = .ok (.aload_n 0, 1) := by decide +kernel
theorem dX4_lay_63 : decode cX4_lay 63 = .ok (.getfield 9, 3) := by decide +kernel
theorem dX4_lay_66 : decode cX4_lay 66 = .ok (.arraylength, 1) := by decide +kernel
theorem dX4_lay_67 : decode cX4_lay 67 = .ok (.if_icmp .ge 48, 3) := by decide +kernel
theorem dX4_lay_70 : decode cX4_lay 70 = .ok (.aload_n 0, 1) := by decide +kernel
theorem dX4_lay_71 : decode cX4_lay 71 = .ok (.getfield 9, 3) := by decide +kernel
theorem dX4_lay_74 : decode cX4_lay 74 = .ok (.aload_n 0, 1) := by decide +kernel
theorem dX4_lay_75 : decode cX4_lay 75 = .ok (.getfield 22, 3) := by decide +kernel
theorem dX4_lay_78 : decode cX4_lay 78 = .ok (.baload, 1) := by decide +kernel
theorem dX4_lay_79 : decode cX4_lay 79 = .ok (.ifCond .eq 36, 3) := by decide +kernel
theorem dX4_lay_82 : decode cX4_lay 82 = .ok (.aload_n 0, 1) := by decide +kernel
theorem dX4_lay_83 : decode cX4_lay 83 = .ok (.getfield 9, 3) := by decide +kernel
theorem dX4_lay_86 : decode cX4_lay 86 = .ok (.aload_n 0, 1) := by decide +kernel
theorem dX4_lay_87 : decode cX4_lay 87 = .ok (.getfield 22, 3) := by decide +kernel
theorem dX4_lay_90 : decode cX4_lay 90 = .ok (.iconst 0, 1) := by decide +kernel
theorem dX4_lay_91 : decode cX4_lay 91 = .ok (.bastore, 1) := by decide +kernel
theorem dX4_lay_92 : decode cX4_lay 92 = .ok (.aload_n 0, 1) := by decide +kernel
theorem dX4_lay_93 : decode cX4_lay 93 = .ok (.dup, 1) := by decide +kernel
theorem dX4_lay_94 : decode cX4_lay 94 = .ok (.getfield 15, 3) := by decide +kernel
theorem dX4_lay_97 : decode cX4_lay 97 = .ok (.iconst 1, 1) := by decide +kernel
theorem dX4_lay_98 : decode cX4_lay 98 = .ok (.isub, 1) := by decide +kernel
theorem dX4_lay_99 : decode cX4_lay 99 = .ok (.putfield 15, 3) := by decide +kernel
theorem dX4_lay_102 : decode cX4_lay 102 = .ok (.aload_n 0, 1) := by decide +kernel
theorem dX4_lay_103 : decode cX4_lay 103 = .ok (.dup, 1) := by decide +kernel
theorem dX4_lay_104 : decode cX4_lay 104 = .ok (.getfield 22, 3) := by decide +kernel
theorem dX4_lay_107 : decode cX4_lay 107 = .ok (.iconst 1, 1) := by decide +kernel
theorem dX4_lay_108 : decode cX4_lay 108 = .ok (.iadd, 1) := by decide +kernel
theorem dX4_lay_109 : decode cX4_lay 109 = .ok (.putfield 22, 3) := by decide +kernel
theorem dX4_lay_112 : decode cX4_lay 112 = .ok (.goto (-61), 3) := by decide +kernel
theorem dX4_lay_115 : decode cX4_lay 115 = .ok (.iconst 1, 1) := by decide +kernel
theorem dX4_lay_116 : decode cX4_lay 116 = .ok (.ireturn, 1) := by decide +kernel
theorem dX5_init_0 : decode cX5_init 0 = .ok (.aload_n 0, 1) := by decide +kernel
theorem dX5_init_1 : decode cX5_init 1 = .ok (.invokespecial 1, 3) := by decide +kernel
theorem dX5_init_4 : decode cX5_init 4 = .ok (.aload_n 0, 1) := by decide +kernel
theorem dX5_init_5 : decode cX5_init 5 = .ok (.bipush 8, 2) := by decide +kernel
theorem dX5_init_7 : decode cX5_init 7 = .ok (.putfield 7, 3) := by decide +kernel
theorem dX5_init_10 : decode cX5_init 10 = .ok (.aload_n 0, 1) := by decide +kernel
theorem dX5_init_11 : decode cX5_init 11 = .ok (.bipush 16, 2) := by decide +kernel
theorem dX5_init_13 : decode cX5_init 13 = .ok (.putfield 13, 3) := by decide +kernel
theorem dX5_init_16 : decode cX5_init 16 = .ok (.aload_n 0, 1) := by decide +kernel
theorem dX5_init_17 : decode cX5_init 17 = .ok (.bipush 64, 2) := by decide +kernel
theorem dX5_init_19 : decode cX5_init 19 = .ok (.putfield 16, 3) := by decide +kernel
theorem dX5_init_22 : decode cX5_init 22 = .ok (.aload_n 0, 1) := by decide +kernel
theorem dX5_init_23 : decode cX5_init 23 = .ok (.iconst 2, 1) := by decide +kernel
theorem dX5_init_24 : decode cX5_init 24 = .ok (.putfield 19, 3) := by decide +kernel
theorem dX5_init_27 : decode cX5_init 27 = .ok (.return_, 1) := by decide +kernel
theorem dX5_allows_0 : decode cX5_allows 0 = .ok (.iload_n 1, 1) := by decide +kernel
theorem dX5_allows_1 : decode cX5_allows 1 = .ok (.ifCond .lt 41, 3) := by decide +kernel
theorem dX5_allows_4 : decode cX5_allows 4 = .ok (.iload_n 1, 1) := by decide +kernel
theorem dX5_allows_5 : decode cX5_allows 5 = .ok (.getstatic 22, 3) := by decide +kernel
theorem dX5_allows_8 : decode cX5_allows 8 = .ok (.arraylength, 1) := by decide +kernel
theorem dX5_allows_9 : decode cX5_allows 9 = .ok (.if_icmp .ge 33, 3) := by decide +kernel
theorem dX5_allows_12 : decode cX5_allows 12 = .ok (.iload_n 1, 1) := by decide +kernel
theorem dX5_allows_13 : decode cX5_allows 13 = .ok (.getstatic 26, 3) := by decide +kernel
theorem dX5_allows_16 : decode cX5_allows 16 = .ok (.arraylength, 1) := by decide +kernel
theorem dX5_allows_17 : decode cX5_allows 17 = .ok (.if_icmp .ge 25, 3) := by decide +kernel
end
section
theorem dX5_allows_20 : decode cX5_allows 20 = .ok (.iload_n 2, 1) := by decide +kernel
theorem dX5_allows_21 : decode cX5_allows 21 = .ok (.getstatic 22, 3) := by decide +kernel
theorem dX5_allows_24 : decode cX5_allows 24 = .ok (.iload_n 1, 1) := by decide +kernel
theorem dX5_allows_25 : decode cX5_allows 25 = .ok (.iaload, 1) := by decide +kernel
theorem dX5_allows_26 : decode cX5_allows 26 = .ok (.if_icmp .lt 16, 3) := by decide +kernel
theorem dX5_allows_29 : decode cX5_allows 29 = .ok (.iload_n 2, 1) := by decide +kernel
theorem dX5_allows_30 : decode cX5_allows 30 = .ok (.getstatic 26, 3) := by decide +kernel
theorem dX5_allows_33 : decode cX5_allows 33 = .ok (.iload_n 1, 1) := by decide +kernel
theorem dX5_allows_34 : decode cX5_allows 34 = .ok (.iaload, 1) := by decide +kernel
theorem dX5_allows_35 : decode cX5_allows 35 = .ok (.if_icmp .gt 7, 3) := by decide +kernel
theorem dX5_allows_38 : decode cX5_allows 38 = .ok (.iconst 1, 1) := by decide +kernel
theorem dX5_allows_39 : decode cX5_allows 39 = .ok (.goto 4, 3) := by decide +kernel
theorem dX5_allows_42 : decode cX5_allows 42 = .ok (.iconst 0, 1) := by decide +kernel
theorem dX5_allows_43 : decode cX5_allows 43 = .ok (.ireturn, 1) := by decide +kernel
theorem dX5_replace_0 : decode cX5_replace 0 = .ok (.iload_n 1, 1) := by decide +kernel
theorem dX5_replace_1 : decode cX5_replace 1 = .ok (.tableswitch 63 0 2 #[27, 39, 51], 27) := by decide +kernel
theorem dX5_replace_28 : decode cX5_replace 28 = .ok (.aload_n 0, 1) := by decide +kernel
theorem dX5_replace_29 : decode cX5_replace 29 = .ok (.getfield 7, 3) := by decide +kernel
theorem dX5_replace_32 : decode cX5_replace 32 = .ok (.istore_n 3, 1) := by decide +kernel
theorem dX5_replace_33 : decode cX5_replace 33 = .ok (.aload_n 0, 1) := by decide +kernel
theorem dX5_replace_34 : decode cX5_replace 34 = .ok (.iload_n 2, 1) := by decide +kernel
theorem dX5_replace_35 : decode cX5_replace 35 = .ok (.putfield 7, 3) := by decide +kernel
theorem dX5_replace_38 : decode cX5_replace 38 = .ok (.iload_n 3, 1) := by decide +kernel
theorem dX5_replace_39 : decode cX5_replace 39 = .ok (.ireturn, 1) := by decide +kernel
theorem dX5_replace_40 : decode cX5_replace 40 = .ok (.aload_n 0, 1) := by decide +kernel
theorem dX5_replace_41 : decode cX5_replace 41 = .ok (.getfield 13, 3) := by decide +kernel
theorem dX5_replace_44 : decode cX5_replace 44 = .ok (.istore_n 3, 1) := by decide +kernel
theorem dX5_replace_45 : decode cX5_replace 45 = .ok (.aload_n 0, 1) := by decide +kernel
theorem dX5_replace_46 : decode cX5_replace 46 = .ok (.iload_n 2, 1) := by decide +kernel
theorem dX5_replace_47 : decode cX5_replace 47 = .ok (.putfield 13, 3) := by decide +kernel
theorem dX5_replace_50 : decode cX5_replace 50 = .ok (.iload_n 3, 1) := by decide +kernel
theorem dX5_replace_51 : decode cX5_replace 51 = .ok (.ireturn, 1) := by decide +kernel
theorem dX5_replace_52 : decode cX5_replace 52 = .ok (.aload_n 0, 1) := by decide +kernel
theorem dX5_replace_53 : decode cX5_replace 53 = .ok (.getfield 16, 3) := by decide +kernel
theorem dX5_replace_56 : decode cX5_replace 56 = .ok (.istore_n 3, 1) := by decide +kernel
theorem dX5_replace_57 : decode cX5_replace 57 = .ok (.aload_n 0, 1) := by decide +kernel
theorem dX5_replace_58 : decode cX5_replace 58 = .ok (.iload_n 2, 1) := by decide +kernel
theorem dX5_replace_59 : decode cX5_replace 59 = .ok (.putfield 16, 3) := by decide +kernel
theorem dX5_replace_62 : decode cX5_replace 62 = .ok (.iload_n 3, 1) := by decide +kernel
theorem dX5_replace_63 : decode cX5_replace 63 = .ok (.ireturn, 1) := by decide +kernel
theorem dX5_replace_64 : decode cX5_replace 64 = .ok (.aload_n 0, 1) := by decide +kernel
theorem dX5_replace_65 : decode cX5_replace 65 = .ok (.getfield 19, 3) := by decide +kernel
theorem dX5_replace_68 : decode cX5_replace 68 = .ok (.istore_n 3, 1) := by decide +kernel
theorem dX5_replace_69 : decode cX5_replace 69 = .ok (.aload_n 0, 1) := by decide +kernel
theorem dX5_replace_70 : decode cX5_replace 70 = .ok (.iload_n 2, 1) := by decide +kernel
theorem dX5_replace_71 : decode cX5_replace 71 = .ok (.putfield 19, 3) := by decide +kernel
theorem dX5_replace_74 : decode cX5_replace 74 = .ok (.iload_n 3, 1) := by decide +kernel
theorem dX5_replace_75 : decode cX5_replace 75 = .ok (.ireturn, 1) := by decide +kernel
theorem dX5_size_0 : decode cX5_size 0 = .ok (.aload_n 0, 1) := by decide +kernel
theorem dX5_size_1 : decode cX5_size 1 = .ok (.getfield 7, 3) := by decide +kernel
theorem dX5_size_4 : decode cX5_size 4 = .ok (.ireturn, 1) := by decide +kernel
theorem dX5_window_0 : decode cX5_window 0 = .ok (.aload_n 0, 1) := by decide +kernel
theorem dX5_window_1 : decode cX5_window 1 = .ok (.getfield 13, 3) := by decide +kernel
theorem dX5_window_4 : decode cX5_window 4 = .ok (.ireturn, 1) := by decide +kernel
theorem dX5_cells_0 : decode cX5_cells 0 = .ok (.aload_n 0, 1) := by decide +kernel
theorem dX5_cells_1 : decode cX5_cells 1 = .ok (.getfield 16, 3) := by decide +kernel
theorem dX5_cells_4 : decode cX5_cells 4 = .ok (.ireturn, 1) := by decide +kernel
theorem dX5_rowLimit_0 : decode cX5_rowLimit 0 = .ok (.aload_n 0, 1) := by decide +kernel
theorem dX5_rowLimit_1 : decode cX5_rowLimit 1 = .ok (.getfield 19, 3) := by decide +kernel
theorem dX5_rowLimit_4 : decode cX5_rowLimit 4 = .ok (.ireturn, 1) := by decide +kernel
set_option maxRecDepth 20000 in
theorem ggX6_init_X1_init : GoodIn wsX6_init wsX1_init := goodIn_r _ [23, 24, 2, 3, 25, 26, 56, 57, 58] (by decide +kernel) (by decide +kernel)
set_option maxRecDepth 20000 in
theorem gX6_init_X1_init_n19 : GoodIn wsX6_init (wsX1_init) := ggX6_init_X1_init
set_option maxRecDepth 20000 in
theorem ggX6_init_X4_init : GoodIn wsX6_init wsX4_init := goodIn_r _ [28, 29, 2, 3, 30, 31, 59, 60, 61, 62] (by decide +kernel) (by decide +kernel)
set_option maxRecDepth 20000 in
theorem gX6_init_X4_init_n26 : GoodIn wsX6_init (wsX4_init) := ggX6_init_X4_init
set_option maxRecDepth 20000 in
theorem ggX6_init_X0_init : GoodIn wsX6_init wsX0_init := goodIn_r _ [33, 34, 2, 3, 30, 35, 36, 37, 63, 64, 65] (by decide +kernel) (by decide +kernel)
set_option maxRecDepth 20000 in
theorem gX6_init_X0_init_n33 : GoodIn wsX6_init (wsX0_init) := ggX6_init_X0_init
set_option maxRecDepth 20000 in
theorem ggX6_init_X8_init : GoodIn wsX6_init wsX8_init := goodIn_r _ [40, 41, 2, 3, 42, 66, 67, 68, 69, 70, 71, 72, 73] (by decide +kernel) (by decide +kernel)
set_option maxRecDepth 20000 in
theorem gX6_init_X8_init : GoodIn wsX6_init (wsX8_init) := ggX6_init_X8_init
theorem dX6_init_0 : decode cX6_init 0 = .ok (.aload_n 0, 1) := by decide +kernel
theorem dX6_init_1 : decode cX6_init 1 = .ok (.invokespecial 3, 3) := by decide +kernel
theorem dX6_init_4 : decode cX6_init 4 = .ok (.aload_n 0, 1) := by decide +kernel
theorem dX6_init_5 : decode cX6_init 5 = .ok (.bipush 6, 2) := by decide +kernel
theorem dX6_init_7 : decode cX6_init 7 = .ok (.anewarray 9, 3) := by decide +kernel
theorem dX6_init_10 : decode cX6_init 10 = .ok (.putfield 11, 3) := by decide +kernel
theorem dX6_init_13 : decode cX6_init 13 = .ok (.aload_n 0, 1) := by decide +kernel
theorem dX6_init_14 : decode cX6_init 14 = .ok (.new 17, 3) := by decide +kernel
theorem dX6_init_17 : decode cX6_init 17 = .ok (.dup, 1) := by decide +kernel
theorem dX6_init_18 : decode cX6_init 18 = .ok (.invokespecial 19, 3) := by decide +kernel
theorem dX6_init_21 : decode cX6_init 21 = .ok (.putfield 20, 3) := by decide +kernel
theorem dX6_init_24 : decode cX6_init 24 = .ok (.aload_n 0, 1) := by decide +kernel
theorem dX6_init_25 : decode cX6_init 25 = .ok (.new 24, 3) := by decide +kernel
theorem dX6_init_28 : decode cX6_init 28 = .ok (.dup, 1) := by decide +kernel
theorem dX6_init_29 : decode cX6_init 29 = .ok (.invokespecial 26, 3) := by decide +kernel
theorem dX6_init_32 : decode cX6_init 32 = .ok (.putfield 27, 3) := by decide +kernel
theorem dX6_init_35 : decode cX6_init 35 = .ok (.aload_n 0, 1) := by decide +kernel
theorem dX6_init_36 : decode cX6_init 36 = .ok (.new 31, 3) := by decide +kernel
theorem dX6_init_39 : decode cX6_init 39 = .ok (.dup, 1) := by decide +kernel
theorem dX6_init_40 : decode cX6_init 40 = .ok (.invokespecial 33, 3) := by decide +kernel
theorem dX6_init_43 : decode cX6_init 43 = .ok (.putfield 34, 3) := by decide +kernel
theorem dX6_init_46 : decode cX6_init 46 = .ok (.aload_n 0, 1) := by decide +kernel
theorem dX6_init_47 : decode cX6_init 47 = .ok (.aload_n 1, 1) := by decide +kernel
theorem dX6_init_48 : decode cX6_init 48 = .ok (.putfield 38, 3) := by decide +kernel
theorem dX6_init_51 : decode cX6_init 51 = .ok (.aload_n 0, 1) := by decide +kernel
theorem dX6_init_52 : decode cX6_init 52 = .ok (.aload_n 2, 1) := by decide +kernel
theorem dX6_init_53 : decode cX6_init 53 = .ok (.putfield 42, 3) := by decide +kernel
theorem dX6_init_56 : decode cX6_init 56 = .ok (.iconst 0, 1) := by decide +kernel
theorem dX6_init_57 : decode cX6_init 57 = .ok (.istore_n 3, 1) := by decide +kernel
theorem dX6_init_58 : decode cX6_init 58 = .ok (.iload_n 3, 1) := by decide +kernel
theorem dX6_init_59 : decode cX6_init 59 = .ok (.aload_n 0, 1) := by decide +kernel
theorem dX6_init_60 : decode cX6_init 60 = .ok (.getfield 11, 3) := by decide +kernel
theorem dX6_init_63 : decode cX6_init 63 = .ok (.arraylength, 1) := by decide +kernel
theorem dX6_init_64 : decode cX6_init 64 = .ok (.if_icmp .ge 23, 3) := by decide +kernel
theorem dX6_init_67 : decode cX6_init 67 = .ok (.aload_n 0, 1) := by decide +kernel
theorem dX6_init_68 : decode cX6_init 68 = .ok (.getfield 11, 3) := by decide +kernel
theorem dX6_init_71 : decode cX6_init 71 = .ok (.iload_n 3, 1) := by decide +kernel
theorem dX6_init_72 : decode cX6_init 72 = .ok (.new 9, 3) := by decide +kernel
theorem dX6_init_75 : decode cX6_init 75 = .ok (.dup, 1) := by decide +kernel
theorem dX6_init_76 : decode cX6_init 76 = .ok (.iload_n 3, 1) := by decide +kernel
theorem dX6_init_77 : decode cX6_init 77 = .ok (.invokespecial 46, 3) := by decide +kernel
theorem dX6_init_80 : decode cX6_init 80 = .ok (.aastore, 1) := by decide +kernel
theorem dX6_init_81 : decode cX6_init 81 = .ok (.iinc 3 1, 3) := by decide +kernel
theorem dX6_init_84 : decode cX6_init 84 = .ok (.goto (-26), 3) := by decide +kernel
theorem dX6_init_87 : decode cX6_init 87 = .ok (.return_, 1) := by decide +kernel
set_option maxRecDepth 20000 in
theorem ggX6_start_X8_renew : GoodIn wsX6_start wsX8_renew := goodIn_r _ [16, 17, 18, 19, 20, 21, 22, 15, 23, 24, 25, 26, 27, 64, 65, 66, 67, 68, 69, 70, 71] (by decide +kernel) (by decide +kernel)
set_option maxRecDepth 20000 in
theorem gX6_start_X8_renew : GoodIn wsX6_start (wsV RX6 53 RX8 yX8_renew wsX8_renew) := goodIn_app (goodIn_of _ (by decide +kernel)) ggX6_start_X8_renew
set_option maxRecDepth 20000 in
theorem ggX6_start_X1_fill : GoodIn wsX6_start wsX1_fill := goodIn_r _ [32, 33, 34, 72, 73, 74] (by decide +kernel) (by decide +kernel)
set_option maxRecDepth 20000 in
theorem gX6_start_X1_fill : GoodIn wsX6_start (wsV RX6 56 RX1 yX1_fill wsX1_fill) := goodIn_app (goodIn_of _ (by decide +kernel)) ggX6_start_X1_fill
set_option maxRecDepth 20000 in
theorem ggX6_start_X4_renew : GoodIn wsX6_start wsX4_renew := goodIn_r _ [39, 40, 41, 42, 43, 75, 76, 77, 78] (by decide +kernel) (by decide +kernel)
set_option maxRecDepth 20000 in
theorem gX6_start_X4_renew : GoodIn wsX6_start (wsV RX6 59 RX4 yX4_renew wsX4_renew) := goodIn_app (goodIn_of _ (by decide +kernel)) ggX6_start_X4_renew
set_option maxRecDepth 20000 in
theorem ggX6_start_X0_renew : GoodIn wsX6_start wsX0_renew := goodIn_r _ [48, 49, 50, 79, 80, 81] (by decide +kernel) (by decide +kernel)
set_option maxRecDepth 20000 in
theorem gX6_start_X0_renew : GoodIn wsX6_start (wsV RX6 61 RX0 yX0_renew wsX0_renew) := goodIn_app (goodIn_of _ (by decide +kernel)) ggX6_start_X0_renew
theorem dX6_start_0 : decode cX6_start 0 = .ok (.aload_n 0, 1) := by decide +kernel
theorem dX6_start_1 : decode cX6_start 1 = .ok (.iload_n 1, 1) := by decide +kernel
theorem dX6_start_2 : decode cX6_start 2 = .ok (.putfield 49, 3) := by decide +kernel
theorem dX6_start_5 : decode cX6_start 5 = .ok (.iconst 0, 1) := by decide +kernel
theorem dX6_start_6 : decode cX6_start 6 = .ok (.istore 4, 2) := by decide +kernel
theorem dX6_start_8 : decode cX6_start 8 = .ok (.iload 4, 2) := by decide +kernel
theorem dX6_start_10 : decode cX6_start 10 = .ok (.aload_n 0, 1) := by decide +kernel
theorem dX6_start_11 : decode cX6_start 11 = .ok (.getfield 11, 3) := by decide +kernel
theorem dX6_start_14 : decode cX6_start 14 = .ok (.arraylength, 1) := by decide +kernel
theorem dX6_start_15 : decode cX6_start 15 = .ok (.if_icmp .ge 19, 3) := by decide +kernel
theorem dX6_start_18 : decode cX6_start 18 = .ok (.aload_n 0, 1) := by decide +kernel
theorem dX6_start_19 : decode cX6_start 19 = .ok (.getfield 11, 3) := by decide +kernel
theorem dX6_start_22 : decode cX6_start 22 = .ok (.iload 4, 2) := by decide +kernel
theorem dX6_start_24 : decode cX6_start 24 = .ok (.aaload, 1) := by decide +kernel
theorem dX6_start_25 : decode cX6_start 25 = .ok (.invokevirtual 53, 3) := by decide +kernel
theorem dX6_start_28 : decode cX6_start 28 = .ok (.iinc 4 1, 3) := by decide +kernel
theorem dX6_start_31 : decode cX6_start 31 = .ok (.goto (-23), 3) := by decide +kernel
theorem dX6_start_34 : decode cX6_start 34 = .ok (.aload_n 0, 1) := by decide +kernel
theorem dX6_start_35 : decode cX6_start 35 = .ok (.getfield 20, 3) := by decide +kernel
theorem dX6_start_38 : decode cX6_start 38 = .ok (.iload_n 2, 1) := by decide +kernel
theorem dX6_start_39 : decode cX6_start 39 = .ok (.invokevirtual 56, 3) := by decide +kernel
theorem dX6_start_42 : decode cX6_start 42 = .ok (.aload_n 0, 1) := by decide +kernel
theorem dX6_start_43 : decode cX6_start 43 = .ok (.getfield 27, 3) := by decide +kernel
theorem dX6_start_46 : decode cX6_start 46 = .ok (.iload_n 3, 1) := by decide +kernel
theorem dX6_start_47 : decode cX6_start 47 = .ok (.invokevirtual 59, 3) := by decide +kernel
theorem dX6_start_50 : decode cX6_start 50 = .ok (.aload_n 0, 1) := by decide +kernel
theorem dX6_start_51 : decode cX6_start 51 = .ok (.getfield 34, 3) := by decide +kernel
theorem dX6_start_54 : decode cX6_start 54 = .ok (.invokevirtual 61, 3) := by decide +kernel
theorem dX6_start_57 : decode cX6_start 57 = .ok (.aload_n 0, 1) := by decide +kernel
theorem dX6_start_58 : decode cX6_start 58 = .ok (.iconst (-1), 1) := by decide +kernel
theorem dX6_start_59 : decode cX6_start 59 = .ok (.putfield 62, 3) := by decide +kernel
theorem dX6_start_62 : decode cX6_start 62 = .ok (.aload_n 0, 1) := by decide +kernel
theorem dX6_start_63 : decode cX6_start 63 = .ok (.iconst 0, 1) := by decide +kernel
theorem dX6_start_64 : decode cX6_start 64 = .ok (.putfield 65, 3) := by decide +kernel
theorem dX6_start_67 : decode cX6_start 67 = .ok (.aload_n 0, 1) := by decide +kernel
theorem dX6_start_68 : decode cX6_start 68 = .ok (.iconst (-1), 1) := by decide +kernel
theorem dX6_start_69 : decode cX6_start 69 = .ok (.putfield 68, 3) := by decide +kernel
theorem dX6_start_72 : decode cX6_start 72 = .ok (.aload_n 0, 1) := by decide +kernel
theorem dX6_start_73 : decode cX6_start 73 = .ok (.iconst 0, 1) := by decide +kernel
theorem dX6_start_74 : decode cX6_start 74 = .ok (.putfield 71, 3) := by decide +kernel
theorem dX6_start_77 : decode cX6_start 77 = .ok (.aload_n 0, 1) := by decide +kernel
theorem dX6_start_78 : decode cX6_start 78 = .ok (.iconst 0, 1) := by decide +kernel
theorem dX6_start_79 : decode cX6_start 79 = .ok (.putfield 74, 3) := by decide +kernel
theorem dX6_start_82 : decode cX6_start 82 = .ok (.aload_n 0, 1) := by decide +kernel
theorem dX6_start_83 : decode cX6_start 83 = .ok (.iconst 0, 1) := by decide +kernel
theorem dX6_start_84 : decode cX6_start 84 = .ok (.putfield 77, 3) := by decide +kernel
theorem dX6_start_87 : decode cX6_start 87 = .ok (.return_, 1) := by decide +kernel
theorem dX6_threads_0 : decode cX6_threads 0 = .ok (.aload_n 0, 1) := by decide +kernel
theorem dX6_threads_1 : decode cX6_threads 1 = .ok (.getfield 49, 3) := by decide +kernel
theorem dX6_threads_4 : decode cX6_threads 4 = .ok (.ireturn, 1) := by decide +kernel
theorem dX6_worker_0 : decode cX6_worker 0 = .ok (.iload_n 1, 1) := by decide +kernel
theorem dX6_worker_1 : decode cX6_worker 1 = .ok (.ifCond .lt 29, 3) := by decide +kernel
theorem dX6_worker_4 : decode cX6_worker 4 = .ok (.iload_n 1, 1) := by decide +kernel
theorem dX6_worker_5 : decode cX6_worker 5 = .ok (.aload_n 0, 1) := by decide +kernel
theorem dX6_worker_6 : decode cX6_worker 6 = .ok (.getfield 49, 3) := by decide +kernel
theorem dX6_worker_9 : decode cX6_worker 9 = .ok (.if_icmp .ge 21, 3) := by decide +kernel
theorem dX6_worker_12 : decode cX6_worker 12 = .ok (.iload_n 1, 1) := by decide +kernel
theorem dX6_worker_13 : decode cX6_worker 13 = .ok (.aload_n 0, 1) := by decide +kernel
theorem dX6_worker_14 : decode cX6_worker 14 = .ok (.getfield 11, 3) := by decide +kernel
theorem dX6_worker_17 : decode cX6_worker 17 = .ok (.arraylength, 1) := by decide +kernel
theorem dX6_worker_18 : decode cX6_worker 18 = .ok (.if_icmp .ge 12, 3) := by decide +kernel
theorem dX6_worker_21 : decode cX6_worker 21 = .ok (.aload_n 0, 1) := by decide +kernel
theorem dX6_worker_22 : decode cX6_worker 22 = .ok (.getfield 11, 3) := by decide +kernel
theorem dX6_worker_25 : decode cX6_worker 25 = .ok (.iload_n 1, 1) := by decide +kernel
theorem dX6_worker_26 : decode cX6_worker 26 = .ok (.aaload, 1) := by decide +kernel
theorem dX6_worker_27 : decode cX6_worker 27 = .ok (.goto 4, 3) := by decide +kernel
theorem dX6_worker_30 : decode cX6_worker 30 = .ok (.aconst_null, 1) := by decide +kernel
theorem dX6_worker_31 : decode cX6_worker 31 = .ok (.areturn, 1) := by decide +kernel
set_option maxRecDepth 20000 in
theorem ggX6_giveTurnsInRing_X6_allEnded : GoodIn wsX6_giveTurnsInRing wsX6_allEnded := goodIn_r _ [7, 2, 8, 180, 181, 182, 183, 184, 185, 186, 187, 188, 189, 190, 191, 192, 193, 194, 195, 196, 197, 198, 199, 200] (by decide +kernel) (by decide +kernel)
set_option maxRecDepth 20000 in
theorem gX6_giveTurnsInRing_X6_allEnded : GoodIn wsX6_giveTurnsInRing (wsV RX6 80 RX6 yX6_allEnded wsX6_allEnded) := goodIn_app (goodIn_of _ (by decide +kernel)) ggX6_giveTurnsInRing_X6_allEnded
set_option maxRecDepth 20000 in
theorem ggX6_giveTurnsInRing_X6_giveTurn : GoodIn wsX6_giveTurnsInRing wsX6_giveTurn := goodIn_r _ [12, 1, 13, 14, 15, 16, 6, 17, 2, 8, 18, 19, 20, 21, 22, 23, 24, 25, 26, 27, 28, 29, 30, 31, 32, 33, 34, 35, 36, 37, 38, 39, 40, 41, 42, 43, 44, 45, 46, 47, 48, 49, 50, 51, 52, 53, 54, 55, 56, 57, 58, 59, 60, 61, 62, 63, 64, 65, 66, 67, 68, 69, 70, 71, 72, 73, 74, 75, 76, 77, 78, 79, 80, 81, 82, 83, 84, 85, 86, 87, 88, 89, 90, 91, 92, 93, 94, 95, 96, 97, 98, 99, 100, 101, 102, 103, 104, 105, 106, 107, 108, 109, 110, 111, 112, 113, 114, 115, 116, 117, 118, 119, 120, 121, 122, 123, 124, 125, 126, 127, 128, 129, 130, 131, 132, 133, 134, 135, 136, 137, 138, 139, 140, 141, 142, 143, 144, 145, 146, 147, 148, 149, 150, 151, 152, 153, 154, 155, 156, 157, 158, 159, 160, 161, 162, 163, 164, 165, 166, 167, 168, 169, 170, 171, 172, 173, 174, 175, 176, 177, 178, 179, 180, 181, 182, 183, 184, 185, 186, 187, 188, 189, 190, 191, 192, 193, 194, 195, 196, 197, 198, 199, 200, 201, 202, 203, 204, 205, 206, 207, 208, 209, 210, 211, 212, 213, 214, 215, 216, 217, 218, 219, 220, 221, 222, 223, 224, 225, 226, 227, 228] (by decide +kernel) (by decide +kernel)
set_option maxRecDepth 20000 in
theorem gX6_giveTurnsInRing_X6_giveTurn : GoodIn wsX6_giveTurnsInRing (wsV RX6 84 RX6 yX6_giveTurn wsX6_giveTurn) := goodIn_app (goodIn_of _ (by decide +kernel)) ggX6_giveTurnsInRing_X6_giveTurn
theorem dX6_giveTurnsInRing_0 : decode cX6_giveTurnsInRing 0 = .ok (.iconst 0, 1) := by decide +kernel
theorem dX6_giveTurnsInRing_1 : decode cX6_giveTurnsInRing 1 = .ok (.istore_n 2, 1) := by decide +kernel
theorem dX6_giveTurnsInRing_2 : decode cX6_giveTurnsInRing 2 = .ok (.iconst 0, 1) := by decide +kernel
theorem dX6_giveTurnsInRing_3 : decode cX6_giveTurnsInRing 3 = .ok (.istore_n 3, 1) := by decide +kernel
theorem dX6_giveTurnsInRing_4 : decode cX6_giveTurnsInRing 4 = .ok (.iload_n 3, 1) := by decide +kernel
theorem dX6_giveTurnsInRing_5 : decode cX6_giveTurnsInRing 5 = .ok (.iload_n 1, 1) := by decide +kernel
theorem dX6_giveTurnsInRing_6 : decode cX6_giveTurnsInRing 6 = .ok (.if_icmp .ge 53, 3) := by decide +kernel
theorem dX6_giveTurnsInRing_9 : decode cX6_giveTurnsInRing 9 = .ok (.aload_n 0, 1) := by decide +kernel
theorem dX6_giveTurnsInRing_10 : decode cX6_giveTurnsInRing 10 = .ok (.invokevirtual 80, 3) := by decide +kernel
theorem dX6_giveTurnsInRing_13 : decode cX6_giveTurnsInRing 13 = .ok (.ifCond .ne 46, 3) := by decide +kernel
theorem dX6_giveTurnsInRing_16 : decode cX6_giveTurnsInRing 16 = .ok (.aload_n 0, 1) := by decide +kernel
theorem dX6_giveTurnsInRing_17 : decode cX6_giveTurnsInRing 17 = .ok (.getfield 62, 3) := by decide +kernel
theorem dX6_giveTurnsInRing_20 : decode cX6_giveTurnsInRing 20 = .ok (.iconst 1, 1) := by decide +kernel
theorem dX6_giveTurnsInRing_21 : decode cX6_giveTurnsInRing 21 = .ok (.iadd, 1) := by decide +kernel
theorem dX6_giveTurnsInRing_22 : decode cX6_giveTurnsInRing 22 = .ok (.aload_n 0, 1) := by decide +kernel
theorem dX6_giveTurnsInRing_23 : decode cX6_giveTurnsInRing 23 = .ok (.getfield 49, 3) := by decide +kernel
theorem dX6_giveTurnsInRing_26 : decode cX6_giveTurnsInRing 26 = .ok (.if_icmp .ge 12, 3) := by decide +kernel
theorem dX6_giveTurnsInRing_29 : decode cX6_giveTurnsInRing 29 = .ok (.aload_n 0, 1) := by decide +kernel
theorem dX6_giveTurnsInRing_30 : decode cX6_giveTurnsInRing 30 = .ok (.getfield 62, 3) := by decide +kernel
theorem dX6_giveTurnsInRing_33 : decode cX6_giveTurnsInRing 33 = .ok (.iconst 1, 1) := by decide +kernel
theorem dX6_giveTurnsInRing_34 : decode cX6_giveTurnsInRing 34 = .ok (.iadd, 1) := by decide +kernel
theorem dX6_giveTurnsInRing_35 : decode cX6_giveTurnsInRing 35 = .ok (.goto 4, 3) := by decide +kernel
theorem dX6_giveTurnsInRing_38 : decode cX6_giveTurnsInRing 38 = .ok (.iconst 0, 1) := by decide +kernel
theorem dX6_giveTurnsInRing_39 : decode cX6_giveTurnsInRing 39 = .ok (.istore 4, 2) := by decide +kernel
theorem dX6_giveTurnsInRing_41 : decode cX6_giveTurnsInRing 41 = .ok (.aload_n 0, 1) := by decide +kernel
theorem dX6_giveTurnsInRing_42 : decode cX6_giveTurnsInRing 42 = .ok (.iload 4, 2) := by decide +kernel
theorem dX6_giveTurnsInRing_44 : decode cX6_giveTurnsInRing 44 = .ok (.invokevirtual 84, 3) := by decide +kernel
theorem dX6_giveTurnsInRing_47 : decode cX6_giveTurnsInRing 47 = .ok (.ifCond .eq 6, 3) := by decide +kernel
theorem dX6_giveTurnsInRing_50 : decode cX6_giveTurnsInRing 50 = .ok (.iinc 2 1, 3) := by decide +kernel
theorem dX6_giveTurnsInRing_53 : decode cX6_giveTurnsInRing 53 = .ok (.iinc 3 1, 3) := by decide +kernel
theorem dX6_giveTurnsInRing_56 : decode cX6_giveTurnsInRing 56 = .ok (.goto (-52), 3) := by decide +kernel
theorem dX6_giveTurnsInRing_59 : decode cX6_giveTurnsInRing 59 = .ok (.iload_n 2, 1) := by decide +kernel
theorem dX6_giveTurnsInRing_60 : decode cX6_giveTurnsInRing 60 = .ok (.ireturn, 1) := by decide +kernel
set_option maxRecDepth 20000 in
theorem ggX6_giveTurn_X6_worker : GoodIn wsX6_giveTurn wsX6_worker := goodIn_r _ [7, 8, 9, 172, 173, 174, 175, 176, 177, 178, 179, 180, 181, 182, 183, 184] (by decide +kernel) (by decide +kernel)
set_option maxRecDepth 20000 in
theorem gX6_giveTurn_X6_worker : GoodIn wsX6_giveTurn (wsV RX6 88 RX6 yX6_worker wsX6_worker) := goodIn_app (goodIn_of _ (by decide +kernel)) ggX6_giveTurn_X6_worker
set_option maxRecDepth 20000 in
theorem ggX6_giveTurn_X6_doFree : GoodIn wsX6_giveTurn wsX6_doFree := goodIn_r _ [13, 14, 15, 16, 17, 18, 19, 20, 6, 21, 22, 23, 24, 25, 26, 27, 28, 29, 30, 31, 32, 33, 34, 35, 36, 37, 38, 39, 40, 41, 42, 43, 44, 45, 46, 9, 47, 48, 49, 50, 51, 52, 53, 54, 55, 56, 57, 58, 59, 60, 61, 62, 63, 64, 65, 66, 67, 68, 69, 70, 71, 72, 73, 74, 75, 76, 77, 78, 79, 80, 81, 82, 83, 84, 85, 86, 87, 88, 89, 90, 91, 92, 93, 94, 95, 96, 97, 98, 99, 100, 101, 102, 103, 104, 105, 106, 107, 108, 109, 110, 111, 112, 185, 186, 187, 188, 189, 190, 191, 192, 172, 173, 174, 175, 176, 177, 178, 179, 180, 181, 182, 183, 184, 193, 194, 195, 196, 197, 198, 199, 200, 201, 202, 203, 204, 205, 206, 207, 208, 209, 210, 211, 212, 213, 214, 215, 216, 217] (by decide +kernel) (by decide +kernel)
set_option maxRecDepth 20000 in
theorem gX6_giveTurn_X6_doFree : GoodIn wsX6_giveTurn (wsV RX6 95 RX6 yX6_doFree wsX6_doFree) := goodIn_app (goodIn_of _ (by decide +kernel)) ggX6_giveTurn_X6_doFree
set_option maxRecDepth 20000 in
theorem ggX6_giveTurn_X6_doWork : GoodIn wsX6_giveTurn wsX6_doWork := goodIn_r _ [116, 117, 16, 15, 67, 47, 48, 49, 50, 51, 52, 118, 119, 120, 121, 122, 123, 124, 125, 126, 127, 128, 6, 129, 130, 22, 131, 132, 133, 134, 100, 135, 103, 102, 104, 136, 137, 138, 139, 105, 106, 107, 32, 108, 34, 41, 140, 37, 38, 39, 40, 42, 141, 142, 143, 144, 61, 62, 145, 146, 147, 26, 148, 149, 150, 151, 152, 153, 154, 155, 156, 157, 158, 14, 159, 160, 161, 162, 163, 164, 165, 166, 167, 185, 186, 187, 188, 189, 190, 191, 192, 172, 173, 174, 175, 176, 177, 178, 179, 180, 181, 182, 183, 184, 197, 198, 199, 218, 219, 220, 215, 216, 217, 200, 201, 202, 203, 204, 205, 206, 207, 208, 193, 194, 195, 196] (by decide +kernel) (by decide +kernel)
set_option maxRecDepth 20000 in
theorem gX6_giveTurn_X6_doWork : GoodIn wsX6_giveTurn (wsV RX6 99 RX6 yX6_doWork wsX6_doWork) := goodIn_app (goodIn_of _ (by decide +kernel)) ggX6_giveTurn_X6_doWork
set_option maxRecDepth 20000 in
theorem ggX6_giveTurn_X6_doHolding : GoodIn wsX6_giveTurn wsX6_doHolding := goodIn_r _ [171, 18, 19, 20, 6, 21, 22, 29, 30, 31, 32, 33, 34, 35, 36, 37, 38, 39, 40, 41, 42, 155, 156, 157, 158, 14, 159, 160, 161, 162, 163, 164, 165, 166, 167, 140, 172, 173, 174, 175, 176, 177, 178, 179, 180, 181, 182, 183, 184, 185, 186, 187, 188, 189, 190, 191, 192, 193, 194, 195, 196] (by decide +kernel) (by decide +kernel)
set_option maxRecDepth 20000 in
theorem gX6_giveTurn_X6_doHolding : GoodIn wsX6_giveTurn (wsV RX6 102 RX6 yX6_doHolding wsX6_doHolding) := goodIn_app (goodIn_of _ (by decide +kernel)) ggX6_giveTurn_X6_doHolding
theorem dX6_giveTurn_0 : decode cX6_giveTurn 0 = .ok (.aload_n 0, 1) := by decide +kernel
theorem dX6_giveTurn_1 : decode cX6_giveTurn 1 = .ok (.iload_n 1, 1) := by decide +kernel
theorem dX6_giveTurn_2 : decode cX6_giveTurn 2 = .ok (.invokevirtual 88, 3) := by decide +kernel
theorem dX6_giveTurn_5 : decode cX6_giveTurn 5 = .ok (.astore_n 2, 1) := by decide +kernel
theorem dX6_giveTurn_6 : decode cX6_giveTurn 6 = .ok (.aload_n 2, 1) := by decide +kernel
theorem dX6_giveTurn_7 : decode cX6_giveTurn 7 = .ok (.ifnonnull 5, 3) := by decide +kernel
theorem dX6_giveTurn_10 : decode cX6_giveTurn 10 = .ok (.iconst 0, 1) := by decide +kernel
theorem dX6_giveTurn_11 : decode cX6_giveTurn 11 = .ok (.ireturn, 1) := by decide +kernel
theorem dX6_giveTurn_12 : decode cX6_giveTurn 12 = .ok (.aload_n 0, 1) := by decide +kernel
theorem dX6_giveTurn_13 : decode cX6_giveTurn 13 = .ok (.iload_n 1, 1) := by decide +kernel
theorem dX6_giveTurn_14 : decode cX6_giveTurn 14 = .ok (.putfield 62, 3) := by decide +kernel
theorem dX6_giveTurn_17 : decode cX6_giveTurn 17 = .ok (.iconst 0, 1) := by decide +kernel
theorem dX6_giveTurn_18 : decode cX6_giveTurn 18 = .ok (.istore_n 3, 1) := by decide +kernel
theorem dX6_giveTurn_19 : decode cX6_giveTurn 19 = .ok (.aload_n 2, 1) := by decide +kernel
theorem dX6_giveTurn_20 : decode cX6_giveTurn 20 = .ok (.getfield 92, 3) := by decide +kernel
theorem dX6_giveTurn_23 : decode cX6_giveTurn 23 = .ok (.tableswitch 56 0 3 #[29, 56, 38, 47], 29) := by decide +kernel
theorem dX6_giveTurn_52 : decode cX6_giveTurn 52 = .ok (.aload_n 0, 1) := by decide +kernel
theorem dX6_giveTurn_53 : decode cX6_giveTurn 53 = .ok (.aload_n 2, 1) := by decide +kernel
theorem dX6_giveTurn_54 : decode cX6_giveTurn 54 = .ok (.invokevirtual 95, 3) := by decide +kernel
theorem dX6_giveTurn_57 : decode cX6_giveTurn 57 = .ok (.istore_n 3, 1) := by decide +kernel
theorem dX6_giveTurn_58 : decode cX6_giveTurn 58 = .ok (.goto 21, 3) := by decide +kernel
theorem dX6_giveTurn_61 : decode cX6_giveTurn 61 = .ok (.aload_n 0, 1) := by decide +kernel
theorem dX6_giveTurn_62 : decode cX6_giveTurn 62 = .ok (.aload_n 2, 1) := by decide +kernel
theorem dX6_giveTurn_63 : decode cX6_giveTurn 63 = .ok (.invokevirtual 99, 3) := by decide +kernel
theorem dX6_giveTurn_66 : decode cX6_giveTurn 66 = .ok (.istore_n 3, 1) := by decide +kernel
theorem dX6_giveTurn_67 : decode cX6_giveTurn 67 = .ok (.goto 12, 3) := by decide +kernel
theorem dX6_giveTurn_70 : decode cX6_giveTurn 70 = .ok (.aload_n 0, 1) := by decide +kernel
theorem dX6_giveTurn_71 : decode cX6_giveTurn 71 = .ok (.aload_n 2, 1) := by decide +kernel
theorem dX6_giveTurn_72 : decode cX6_giveTurn 72 = .ok (.invokevirtual 102, 3) := by decide +kernel
theorem dX6_giveTurn_75 : decode cX6_giveTurn 75 = .ok (.istore_n 3, 1) := by decide +kernel
theorem dX6_giveTurn_76 : decode cX6_giveTurn 76 = .ok (.goto 3, 3) := by decide +kernel
theorem dX6_giveTurn_79 : decode cX6_giveTurn 79 = .ok (.iload_n 3, 1) := by decide +kernel
theorem dX6_giveTurn_80 : decode cX6_giveTurn 80 = .ok (.ifCond .eq 13, 3) := by decide +kernel
theorem dX6_giveTurn_83 : decode cX6_giveTurn 83 = .ok (.aload_n 0, 1) := by decide +kernel
theorem dX6_giveTurn_84 : decode cX6_giveTurn 84 = .ok (.dup, 1) := by decide +kernel
theorem dX6_giveTurn_85 : decode cX6_giveTurn 85 = .ok (.getfield 77, 3) := by decide +kernel
theorem dX6_giveTurn_88 : decode cX6_giveTurn 88 = .ok (.iconst 1, 1) := by decide +kernel
theorem dX6_giveTurn_89 : decode cX6_giveTurn 89 = .ok (.iadd, 1) := by decide +kernel
theorem dX6_giveTurn_90 : decode cX6_giveTurn 90 = .ok (.putfield 77, 3) := by decide +kernel
theorem dX6_giveTurn_93 : decode cX6_giveTurn 93 = .ok (.iload_n 3, 1) := by decide +kernel
theorem dX6_giveTurn_94 : decode cX6_giveTurn 94 = .ok (.ireturn, 1) := by decide +kernel
set_option maxRecDepth 20000 in
theorem ggX6_doFree_X6_hasStopped : GoodIn wsX6_doFree wsX6_hasStopped := goodIn_r _ [9, 10, 110, 111, 112, 113, 114, 115, 116, 117, 118, 119, 120, 121, 122] (by decide +kernel) (by decide +kernel)
set_option maxRecDepth 20000 in
theorem gX6_doFree_X6_hasStopped : GoodIn wsX6_doFree (wsV RX6 109 RX6 yX6_hasStopped wsX6_hasStopped) := goodIn_app (goodIn_of _ (by decide +kernel)) ggX6_doFree_X6_hasStopped
set_option maxRecDepth 20000 in
theorem ggX6_doFree_X2_blocks : GoodIn wsX6_doFree wsX2_blocks := goodIn_r _ [15, 16, 130, 131, 132, 133, 134, 135, 136, 137, 138] (by decide +kernel) (by decide +kernel)
set_option maxRecDepth 20000 in
theorem gX6_doFree_X2_blocks : GoodIn wsX6_doFree (wsV RX6 115 RX2 yX2_blocks wsX2_blocks) := goodIn_app (goodIn_of _ (by decide +kernel)) ggX6_doFree_X2_blocks
set_option maxRecDepth 20000 in
theorem ggX6_doFree_X8_end : GoodIn wsX6_doFree wsX8_end := goodIn_r _ [21, 22, 23, 24, 25, 26, 20, 27, 28, 29, 30, 102, 103, 104, 105, 106, 107, 108, 109] (by decide +kernel) (by decide +kernel)
set_option maxRecDepth 20000 in
theorem gX6_doFree_X8_end : GoodIn wsX6_doFree (wsV RX6 121 RX8 yX8_end wsX8_end) := goodIn_app (goodIn_of _ (by decide +kernel)) ggX6_doFree_X8_end
set_option maxRecDepth 20000 in
theorem ggX6_doFree_X6_isBlockDoneAgain : GoodIn wsX6_doFree wsX6_isBlockDoneAgain := goodIn_r _ [34, 35, 3, 36, 37, 38, 39, 40, 41, 110, 111, 112, 113, 114, 115, 116, 117, 118, 119, 120, 121, 122, 102, 103, 104, 105, 106, 107, 108, 109, 127, 128, 129] (by decide +kernel) (by decide +kernel)
set_option maxRecDepth 20000 in
theorem gX6_doFree_X6_isBlockDoneAgain : GoodIn wsX6_doFree (wsV RX6 124 RX6 yX6_isBlockDoneAgain wsX6_isBlockDoneAgain) := goodIn_app (goodIn_of _ (by decide +kernel)) ggX6_doFree_X6_isBlockDoneAgain
set_option maxRecDepth 20000 in
theorem ggX6_doFree_X6_isAnyAtWork : GoodIn wsX6_doFree wsX6_isAnyAtWork := goodIn_r _ [45, 35, 110, 111, 112, 113, 114, 115, 116, 117, 118, 119, 120, 121, 122, 102, 103, 104, 105, 106, 107, 108, 109] (by decide +kernel) (by decide +kernel)
set_option maxRecDepth 20000 in
theorem gX6_doFree_X6_isAnyAtWork : GoodIn wsX6_doFree (wsV RX6 130 RX6 yX6_isAnyAtWork wsX6_isAnyAtWork) := goodIn_app (goodIn_of _ (by decide +kernel)) ggX6_doFree_X6_isAnyAtWork
set_option maxRecDepth 20000 in
theorem ggX6_doFree_X0_takeFirst : GoodIn wsX6_doFree wsX0_takeFirst := goodIn_r _ [49, 50, 51, 127, 128, 129] (by decide +kernel) (by decide +kernel)
set_option maxRecDepth 20000 in
theorem gX6_doFree_X0_takeFirst : GoodIn wsX6_doFree (wsV RX6 133 RX0 yX0_takeFirst wsX0_takeFirst) := goodIn_app (goodIn_of _ (by decide +kernel)) ggX6_doFree_X0_takeFirst
set_option maxRecDepth 20000 in
theorem ggX6_doFree_X6_take : GoodIn wsX6_doFree wsX6_take := goodIn_r _ [55, 2, 56, 57, 58, 59, 14, 60, 61, 62, 63, 64, 65, 66, 67, 68, 69, 70, 71, 72, 73, 74, 75, 76, 77, 78, 79, 80, 81, 82, 83, 84, 20, 85, 28, 30, 86, 87, 88, 89, 90, 91, 92, 93, 94, 95, 96, 97, 22, 29, 98, 99, 100, 101, 110, 111, 112, 113, 114, 115, 116, 117, 118, 119, 120, 121, 122, 130, 131, 132, 133, 134, 135, 136, 137, 138, 139, 140, 141, 142, 143, 144, 102, 103, 104, 105, 106, 107, 108, 109, 145, 146, 147] (by decide +kernel) (by decide +kernel)
set_option maxRecDepth 20000 in
theorem gX6_doFree_X6_take : GoodIn wsX6_doFree (wsV RX6 136 RX6 yX6_take wsX6_take) := goodIn_app (goodIn_of _ (by decide +kernel)) ggX6_doFree_X6_take
theorem dX6_doFree_0 : decode cX6_doFree 0 = .ok (.aload_n 1, 1) := by decide +kernel
theorem dX6_doFree_1 : decode cX6_doFree 1 = .ok (.getfield 105, 3) := by decide +kernel
theorem dX6_doFree_4 : decode cX6_doFree 4 = .ok (.ifCond .ne 27, 3) := by decide +kernel
theorem dX6_doFree_7 : decode cX6_doFree 7 = .ok (.aload_n 0, 1) := by decide +kernel
theorem dX6_doFree_8 : decode cX6_doFree 8 = .ok (.invokevirtual 109, 3) := by decide +kernel
theorem dX6_doFree_11 : decode cX6_doFree 11 = .ok (.ifCond .ne 20, 3) := by decide +kernel
theorem dX6_doFree_14 : decode cX6_doFree 14 = .ok (.aload_n 0, 1) := by decide +kernel
theorem dX6_doFree_15 : decode cX6_doFree 15 = .ok (.getfield 27, 3) := by decide +kernel
theorem dX6_doFree_18 : decode cX6_doFree 18 = .ok (.getfield 112, 3) := by decide +kernel
theorem dX6_doFree_21 : decode cX6_doFree 21 = .ok (.aload_n 0, 1) := by decide +kernel
theorem dX6_doFree_22 : decode cX6_doFree 22 = .ok (.getfield 38, 3) := by decide +kernel
theorem dX6_doFree_25 : decode cX6_doFree 25 = .ok (.invokevirtual 115, 3) := by decide +kernel
theorem dX6_doFree_28 : decode cX6_doFree 28 = .ok (.if_icmp .lt 9, 3) := by decide +kernel
theorem dX6_doFree_31 : decode cX6_doFree 31 = .ok (.aload_n 1, 1) := by decide +kernel
theorem dX6_doFree_32 : decode cX6_doFree 32 = .ok (.invokevirtual 121, 3) := by decide +kernel
theorem dX6_doFree_35 : decode cX6_doFree 35 = .ok (.iconst 1, 1) := by decide +kernel
theorem dX6_doFree_36 : decode cX6_doFree 36 = .ok (.ireturn, 1) := by decide +kernel
theorem dX6_doFree_37 : decode cX6_doFree 37 = .ok (.aload_n 0, 1) := by decide +kernel
theorem dX6_doFree_38 : decode cX6_doFree 38 = .ok (.invokevirtual 124, 3) := by decide +kernel
theorem dX6_doFree_41 : decode cX6_doFree 41 = .ok (.ifCond .eq 5, 3) := by decide +kernel
theorem dX6_doFree_44 : decode cX6_doFree 44 = .ok (.iconst 0, 1) := by decide +kernel
theorem dX6_doFree_45 : decode cX6_doFree 45 = .ok (.ireturn, 1) := by decide +kernel
theorem dX6_doFree_46 : decode cX6_doFree 46 = .ok (.aload_n 0, 1) := by decide +kernel
theorem dX6_doFree_47 : decode cX6_doFree 47 = .ok (.getfield 34, 3) := by decide +kernel
theorem dX6_doFree_50 : decode cX6_doFree 50 = .ok (.getfield 127, 3) := by decide +kernel
theorem dX6_doFree_53 : decode cX6_doFree 53 = .ok (.ifCond .le 26, 3) := by decide +kernel
theorem dX6_doFree_56 : decode cX6_doFree 56 = .ok (.aload_n 0, 1) := by decide +kernel
theorem dX6_doFree_57 : decode cX6_doFree 57 = .ok (.invokevirtual 130, 3) := by decide +kernel
theorem dX6_doFree_60 : decode cX6_doFree 60 = .ok (.ifCond .eq 5, 3) := by decide +kernel
theorem dX6_doFree_63 : decode cX6_doFree 63 = .ok (.iconst 0, 1) := by decide +kernel
theorem dX6_doFree_64 : decode cX6_doFree 64 = .ok (.ireturn, 1) := by decide +kernel
theorem dX6_doFree_65 : decode cX6_doFree 65 = .ok (.aload_n 0, 1) := by decide +kernel
theorem dX6_doFree_66 : decode cX6_doFree 66 = .ok (.aload_n 1, 1) := by decide +kernel
theorem dX6_doFree_67 : decode cX6_doFree 67 = .ok (.aload_n 0, 1) := by decide +kernel
theorem dX6_doFree_68 : decode cX6_doFree 68 = .ok (.getfield 34, 3) := by decide +kernel
theorem dX6_doFree_71 : decode cX6_doFree 71 = .ok (.invokevirtual 133, 3) := by decide +kernel
theorem dX6_doFree_74 : decode cX6_doFree 74 = .ok (.invokevirtual 136, 3) := by decide +kernel
theorem dX6_doFree_77 : decode cX6_doFree 77 = .ok (.iconst 1, 1) := by decide +kernel
theorem dX6_doFree_78 : decode cX6_doFree 78 = .ok (.ireturn, 1) := by decide +kernel
theorem dX6_doFree_79 : decode cX6_doFree 79 = .ok (.aload_n 0, 1) := by decide +kernel
theorem dX6_doFree_80 : decode cX6_doFree 80 = .ok (.getfield 65, 3) := by decide +kernel
theorem dX6_doFree_83 : decode cX6_doFree 83 = .ok (.aload_n 0, 1) := by decide +kernel
theorem dX6_doFree_84 : decode cX6_doFree 84 = .ok (.getfield 38, 3) := by decide +kernel
theorem dX6_doFree_87 : decode cX6_doFree 87 = .ok (.invokevirtual 115, 3) := by decide +kernel
theorem dX6_doFree_90 : decode cX6_doFree 90 = .ok (.if_icmp .lt 5, 3) := by decide +kernel
theorem dX6_doFree_93 : decode cX6_doFree 93 = .ok (.iconst 0, 1) := by decide +kernel
theorem dX6_doFree_94 : decode cX6_doFree 94 = .ok (.ireturn, 1) := by decide +kernel
theorem dX6_doFree_95 : decode cX6_doFree 95 = .ok (.aload_n 0, 1) := by decide +kernel
theorem dX6_doFree_96 : decode cX6_doFree 96 = .ok (.aload_n 1, 1) := by decide +kernel
theorem dX6_doFree_97 : decode cX6_doFree 97 = .ok (.aload_n 0, 1) := by decide +kernel
theorem dX6_doFree_98 : decode cX6_doFree 98 = .ok (.getfield 65, 3) := by decide +kernel
theorem dX6_doFree_101 : decode cX6_doFree 101 = .ok (.invokevirtual 136, 3) := by decide +kernel
theorem dX6_doFree_104 : decode cX6_doFree 104 = .ok (.aload_n 0, 1) := by decide +kernel
theorem dX6_doFree_105 : decode cX6_doFree 105 = .ok (.dup, 1) := by decide +kernel
theorem dX6_doFree_106 : decode cX6_doFree 106 = .ok (.getfield 65, 3) := by decide +kernel
theorem dX6_doFree_109 : decode cX6_doFree 109 = .ok (.iconst 1, 1) := by decide +kernel
theorem dX6_doFree_110 : decode cX6_doFree 110 = .ok (.iadd, 1) := by decide +kernel
theorem dX6_doFree_111 : decode cX6_doFree 111 = .ok (.putfield 65, 3) := by decide +kernel
theorem dX6_doFree_114 : decode cX6_doFree 114 = .ok (.iconst 1, 1) := by decide +kernel
theorem dX6_doFree_115 : decode cX6_doFree 115 = .ok (.ireturn, 1) := by decide +kernel
set_option maxRecDepth 20000 in
theorem ggX6_take_X2_bytesOf : GoodIn wsX6_take wsX2_bytesOf := goodIn_r _ [7, 8, 9, 10, 11, 12, 13, 14, 15, 16, 17, 18, 19, 20, 21, 22, 23, 24, 25, 26, 27, 28, 67, 68, 69, 70, 71, 72, 73, 74, 75, 76, 77, 78, 79, 80, 81] (by decide +kernel) (by decide +kernel)
set_option maxRecDepth 20000 in
theorem gX6_take_X2_bytesOf : GoodIn wsX6_take (wsV RX6 140 RX2 yX2_bytesOf wsX2_bytesOf) := goodIn_app (goodIn_of _ (by decide +kernel)) ggX6_take_X2_bytesOf
set_option maxRecDepth 20000 in
theorem ggX6_take_X8_choose : GoodIn wsX6_take wsX8_choose := goodIn_r _ [33, 34, 35, 82, 83, 84, 85, 86, 87, 88, 89] (by decide +kernel) (by decide +kernel)
set_option maxRecDepth 20000 in
theorem gX6_take_X8_choose : GoodIn wsX6_take (wsV RX6 144 RX8 yX8_choose wsX8_choose) := goodIn_app (goodIn_of _ (by decide +kernel)) ggX6_take_X8_choose
set_option maxRecDepth 20000 in
theorem ggX6_take_X1_ask : GoodIn wsX6_take wsX1_ask := goodIn_r _ [40, 41, 42, 43, 44, 45, 46, 32, 47, 48, 49, 50, 51, 52, 53, 90, 91, 92, 82, 83, 84, 85, 86, 87, 88, 89] (by decide +kernel) (by decide +kernel)
set_option maxRecDepth 20000 in
theorem gX6_take_X1_ask : GoodIn wsX6_take (wsV RX6 148 RX1 yX1_ask wsX1_ask) := goodIn_app (goodIn_of _ (by decide +kernel)) ggX6_take_X1_ask
theorem dX6_take_0 : decode cX6_take 0 = .ok (.aload_n 1, 1) := by decide +kernel
theorem dX6_take_1 : decode cX6_take 1 = .ok (.iload_n 2, 1) := by decide +kernel
theorem dX6_take_2 : decode cX6_take 2 = .ok (.aload_n 0, 1) := by decide +kernel
theorem dX6_take_3 : decode cX6_take 3 = .ok (.getfield 38, 3) := by decide +kernel
theorem dX6_take_6 : decode cX6_take 6 = .ok (.iload_n 2, 1) := by decide +kernel
theorem dX6_take_7 : decode cX6_take 7 = .ok (.invokevirtual 140, 3) := by decide +kernel
theorem dX6_take_10 : decode cX6_take 10 = .ok (.invokevirtual 144, 3) := by decide +kernel
theorem dX6_take_13 : decode cX6_take 13 = .ok (.aload_n 0, 1) := by decide +kernel
theorem dX6_take_14 : decode cX6_take 14 = .ok (.getfield 20, 3) := by decide +kernel
theorem dX6_take_17 : decode cX6_take 17 = .ok (.aload_n 1, 1) := by decide +kernel
theorem dX6_take_18 : decode cX6_take 18 = .ok (.invokevirtual 148, 3) := by decide +kernel
theorem dX6_take_21 : decode cX6_take 21 = .ok (.return_, 1) := by decide +kernel
set_option maxRecDepth 20000 in
theorem ggX6_doWork_X0_has : GoodIn wsX6_doWork wsX0_has := goodIn_r _ [9, 10, 104, 105, 106] (by decide +kernel) (by decide +kernel)
set_option maxRecDepth 20000 in
theorem gX6_doWork_X0_has : GoodIn wsX6_doWork (wsV RX6 158 RX0 yX0_has wsX0_has) := goodIn_app (goodIn_of _ (by decide +kernel)) ggX6_doWork_X0_has
set_option maxRecDepth 20000 in
theorem ggX6_doWork_X3_kindAt : GoodIn wsX6_doWork wsX3_kindAt := goodIn_r _ [15, 16, 17, 18, 107, 108, 109] (by decide +kernel) (by decide +kernel)
set_option maxRecDepth 20000 in
theorem gX6_doWork_X3_kindAt : GoodIn wsX6_doWork (wsV RX6 161 RX3 yX3_kindAt wsX3_kindAt) := goodIn_app (goodIn_of _ (by decide +kernel)) ggX6_doWork_X3_kindAt
set_option maxRecDepth 20000 in
theorem ggX6_doWork_X6_fail : GoodIn wsX6_doWork wsX6_fail := goodIn_r _ [23, 4, 24, 2, 25, 26, 27, 28, 29, 30, 31, 32, 33, 34, 35, 36, 37, 38, 39, 40, 41, 42, 43, 44, 45, 46, 47, 48, 49, 50, 51, 5, 6, 7, 8, 9, 10, 52, 53, 54, 55, 56, 57, 83, 84, 85, 86, 87, 88, 89, 90, 91, 92, 93, 94, 95, 96, 97, 98, 99, 100, 101, 102, 103, 110, 111, 112, 104, 105, 106] (by decide +kernel) (by decide +kernel)
set_option maxRecDepth 20000 in
theorem gX6_doWork_X6_fail : GoodIn wsX6_doWork (wsV RX6 167 RX6 yX6_fail wsX6_fail) := goodIn_app (goodIn_of _ (by decide +kernel)) ggX6_doWork_X6_fail
set_option maxRecDepth 20000 in
theorem ggX6_doWork_X2_tokensOf : GoodIn wsX6_doWork wsX2_tokensOf := goodIn_r _ [62, 63, 113, 114, 115, 116, 117, 118, 119, 120, 121] (by decide +kernel) (by decide +kernel)
set_option maxRecDepth 20000 in
theorem gX6_doWork_X2_tokensOf : GoodIn wsX6_doWork (wsV RX6 170 RX2 yX2_tokensOf wsX2_tokensOf) := goodIn_app (goodIn_of _ (by decide +kernel)) ggX6_doWork_X2_tokensOf
set_option maxRecDepth 20000 in
theorem ggX6_doWork_X1_giveBack : GoodIn wsX6_doWork wsX1_giveBack := goodIn_r _ [31, 32, 33, 34, 35, 36, 37, 30, 38, 39, 40, 41, 42, 43, 44, 45, 110, 111, 112, 83, 84, 85, 86, 87, 88, 89, 90] (by decide +kernel) (by decide +kernel)
set_option maxRecDepth 20000 in
theorem gX6_doWork_X1_giveBack : GoodIn wsX6_doWork (wsV RX6 176 RX1 yX1_giveBack wsX1_giveBack) := goodIn_app (goodIn_of _ (by decide +kernel)) ggX6_doWork_X1_giveBack
set_option maxRecDepth 20000 in
theorem ggX6_doWork_X8_holdPack : GoodIn wsX6_doWork wsX8_holdPack := goodIn_r _ [67, 44, 45, 68, 83, 84, 85, 86, 87, 88, 89, 90] (by decide +kernel) (by decide +kernel)
set_option maxRecDepth 20000 in
theorem gX6_doWork_X8_holdPack : GoodIn wsX6_doWork (wsV RX6 179 RX8 yX8_holdPack wsX8_holdPack) := goodIn_app (goodIn_of _ (by decide +kernel)) ggX6_doWork_X8_holdPack
set_option maxRecDepth 20000 in
theorem ggX6_doWork_X6_layPack : GoodIn wsX6_doWork wsX6_layPack := goodIn_r _ [72, 73, 74, 75, 76, 77, 78, 79, 80, 81, 82, 46, 47, 48, 42, 49, 44, 50, 45, 51, 91, 92, 93, 94, 95, 96, 97, 98, 99, 100, 101, 102, 103, 83, 84, 85, 86, 87, 88, 89, 90, 122, 123, 124, 125] (by decide +kernel) (by decide +kernel)
set_option maxRecDepth 20000 in
theorem gX6_doWork_X6_layPack : GoodIn wsX6_doWork (wsV RX6 182 RX6 yX6_layPack wsX6_layPack) := goodIn_app (goodIn_of _ (by decide +kernel)) ggX6_doWork_X6_layPack
theorem dX6_doWork_0 : decode cX6_doWork 0 = .ok (.aload_n 1, 1) := by decide +kernel
theorem dX6_doWork_1 : decode cX6_doWork 1 = .ok (.getfield 152, 3) := by decide +kernel
theorem dX6_doWork_4 : decode cX6_doWork 4 = .ok (.istore_n 2, 1) := by decide +kernel
theorem dX6_doWork_5 : decode cX6_doWork 5 = .ok (.aload_n 0, 1) := by decide +kernel
theorem dX6_doWork_6 : decode cX6_doWork 6 = .ok (.getfield 42, 3) := by decide +kernel
theorem dX6_doWork_9 : decode cX6_doWork 9 = .ok (.iload_n 2, 1) := by decide +kernel
theorem dX6_doWork_10 : decode cX6_doWork 10 = .ok (.aload_n 1, 1) := by decide +kernel
theorem dX6_doWork_11 : decode cX6_doWork 11 = .ok (.getfield 155, 3) := by decide +kernel
theorem dX6_doWork_14 : decode cX6_doWork 14 = .ok (.aload_n 0, 1) := by decide +kernel
theorem dX6_doWork_15 : decode cX6_doWork 15 = .ok (.getfield 34, 3) := by decide +kernel
theorem dX6_doWork_18 : decode cX6_doWork 18 = .ok (.iload_n 2, 1) := by decide +kernel
theorem dX6_doWork_19 : decode cX6_doWork 19 = .ok (.invokevirtual 158, 3) := by decide +kernel
theorem dX6_doWork_22 : decode cX6_doWork 22 = .ok (.invokevirtual 161, 3) := by decide +kernel
theorem dX6_doWork_25 : decode cX6_doWork 25 = .ok (.istore_n 3, 1) := by decide +kernel
theorem dX6_doWork_26 : decode cX6_doWork 26 = .ok (.iload_n 3, 1) := by decide +kernel
theorem dX6_doWork_27 : decode cX6_doWork 27 = .ok (.ifCond .eq 11, 3) := by decide +kernel
theorem dX6_doWork_30 : decode cX6_doWork 30 = .ok (.aload_n 0, 1) := by decide +kernel
theorem dX6_doWork_31 : decode cX6_doWork 31 = .ok (.aload_n 1, 1) := by decide +kernel
theorem dX6_doWork_32 : decode cX6_doWork 32 = .ok (.iload_n 3, 1) := by decide +kernel
theorem dX6_doWork_33 : decode cX6_doWork 33 = .ok (.invokevirtual 167, 3) := by decide +kernel
theorem dX6_doWork_36 : decode cX6_doWork 36 = .ok (.iconst 1, 1) := by decide +kernel
theorem dX6_doWork_37 : decode cX6_doWork 37 = .ok (.ireturn, 1) := by decide +kernel
theorem dX6_doWork_38 : decode cX6_doWork 38 = .ok (.aload_n 1, 1) := by decide +kernel
theorem dX6_doWork_39 : decode cX6_doWork 39 = .ok (.dup, 1) := by decide +kernel
theorem dX6_doWork_40 : decode cX6_doWork 40 = .ok (.getfield 155, 3) := by decide +kernel
theorem dX6_doWork_43 : decode cX6_doWork 43 = .ok (.iconst 1, 1) := by decide +kernel
theorem dX6_doWork_44 : decode cX6_doWork 44 = .ok (.iadd, 1) := by decide +kernel
theorem dX6_doWork_45 : decode cX6_doWork 45 = .ok (.putfield 155, 3) := by decide +kernel
theorem dX6_doWork_48 : decode cX6_doWork 48 = .ok (.aload_n 1, 1) := by decide +kernel
theorem dX6_doWork_49 : decode cX6_doWork 49 = .ok (.getfield 155, 3) := by decide +kernel
theorem dX6_doWork_52 : decode cX6_doWork 52 = .ok (.aload_n 0, 1) := by decide +kernel
theorem dX6_doWork_53 : decode cX6_doWork 53 = .ok (.getfield 38, 3) := by decide +kernel
theorem dX6_doWork_56 : decode cX6_doWork 56 = .ok (.iload_n 2, 1) := by decide +kernel
theorem dX6_doWork_57 : decode cX6_doWork 57 = .ok (.invokevirtual 170, 3) := by decide +kernel
theorem dX6_doWork_60 : decode cX6_doWork 60 = .ok (.if_icmp .lt 24, 3) := by decide +kernel
theorem dX6_doWork_63 : decode cX6_doWork 63 = .ok (.aload_n 0, 1) := by decide +kernel
theorem dX6_doWork_64 : decode cX6_doWork 64 = .ok (.getfield 20, 3) := by decide +kernel
theorem dX6_doWork_67 : decode cX6_doWork 67 = .ok (.aload_n 1, 1) := by decide +kernel
theorem dX6_doWork_68 : decode cX6_doWork 68 = .ok (.getfield 173, 3) := by decide +kernel
theorem dX6_doWork_71 : decode cX6_doWork 71 = .ok (.invokevirtual 176, 3) := by decide +kernel
theorem dX6_doWork_74 : decode cX6_doWork 74 = .ok (.aload_n 1, 1) := by decide +kernel
theorem dX6_doWork_75 : decode cX6_doWork 75 = .ok (.invokevirtual 179, 3) := by decide +kernel
theorem dX6_doWork_78 : decode cX6_doWork 78 = .ok (.aload_n 0, 1) := by decide +kernel
theorem dX6_doWork_79 : decode cX6_doWork 79 = .ok (.aload_n 1, 1) := by decide +kernel
theorem dX6_doWork_80 : decode cX6_doWork 80 = .ok (.invokevirtual 182, 3) := by decide +kernel
theorem dX6_doWork_83 : decode cX6_doWork 83 = .ok (.pop, 1) := by decide +kernel
theorem dX6_doWork_84 : decode cX6_doWork 84 = .ok (.iconst 1, 1) := by decide +kernel
theorem dX6_doWork_85 : decode cX6_doWork 85 = .ok (.ireturn, 1) := by decide +kernel
set_option maxRecDepth 20000 in
theorem ggX6_fail_X1_giveBack : GoodIn wsX6_fail wsX1_giveBack := goodIn_r _ [10, 11, 12, 13, 14, 15, 16, 9, 17, 18, 19, 20, 21, 22, 23, 24, 64, 65, 66, 43, 44, 45, 46, 47, 48, 49, 50] (by decide +kernel) (by decide +kernel)
set_option maxRecDepth 20000 in
theorem gX6_fail_X1_giveBack : GoodIn wsX6_fail (wsV RX6 176 RX1 yX1_giveBack wsX1_giveBack) := goodIn_app (goodIn_of _ (by decide +kernel)) ggX6_fail_X1_giveBack
set_option maxRecDepth 20000 in
theorem ggX6_fail_X8_becomeFree : GoodIn wsX6_fail wsX8_becomeFree := goodIn_r _ [28, 23, 29, 24, 30, 43, 44, 45, 46, 47, 48, 49, 50] (by decide +kernel) (by decide +kernel)
set_option maxRecDepth 20000 in
theorem gX6_fail_X8_becomeFree : GoodIn wsX6_fail (wsV RX6 185 RX8 yX8_becomeFree wsX8_becomeFree) := goodIn_app (goodIn_of _ (by decide +kernel)) ggX6_fail_X8_becomeFree
set_option maxRecDepth 20000 in
theorem ggX6_fail_X0_has : GoodIn wsX6_fail wsX0_has := goodIn_r _ [35, 36, 67, 68, 69] (by decide +kernel) (by decide +kernel)
set_option maxRecDepth 20000 in
theorem gX6_fail_X0_has : GoodIn wsX6_fail (wsV RX6 158 RX0 yX0_has wsX0_has) := goodIn_app (goodIn_of _ (by decide +kernel)) ggX6_fail_X0_has
set_option maxRecDepth 20000 in
theorem ggX6_fail_X0_add : GoodIn wsX6_fail wsX0_add := goodIn_r _ [40, 36, 41, 42, 67, 68, 69] (by decide +kernel) (by decide +kernel)
set_option maxRecDepth 20000 in
theorem gX6_fail_X0_add : GoodIn wsX6_fail (wsV RX6 188 RX0 yX0_add wsX0_add) := goodIn_app (goodIn_of _ (by decide +kernel)) ggX6_fail_X0_add
theorem dX6_fail_0 : decode cX6_fail 0 = .ok (.aload_n 1, 1) := by decide +kernel
theorem dX6_fail_1 : decode cX6_fail 1 = .ok (.getfield 152, 3) := by decide +kernel
theorem dX6_fail_4 : decode cX6_fail 4 = .ok (.istore_n 3, 1) := by decide +kernel
theorem dX6_fail_5 : decode cX6_fail 5 = .ok (.aload_n 0, 1) := by decide +kernel
theorem dX6_fail_6 : decode cX6_fail 6 = .ok (.getfield 20, 3) := by decide +kernel
theorem dX6_fail_9 : decode cX6_fail 9 = .ok (.aload_n 1, 1) := by decide +kernel
theorem dX6_fail_10 : decode cX6_fail 10 = .ok (.getfield 173, 3) := by decide +kernel
theorem dX6_fail_13 : decode cX6_fail 13 = .ok (.invokevirtual 176, 3) := by decide +kernel
theorem dX6_fail_16 : decode cX6_fail 16 = .ok (.aload_n 1, 1) := by decide +kernel
theorem dX6_fail_17 : decode cX6_fail 17 = .ok (.invokevirtual 185, 3) := by decide +kernel
theorem dX6_fail_20 : decode cX6_fail 20 = .ok (.aload_n 0, 1) := by decide +kernel
theorem dX6_fail_21 : decode cX6_fail 21 = .ok (.dup, 1) := by decide +kernel
theorem dX6_fail_22 : decode cX6_fail 22 = .ok (.getfield 74, 3) := by decide +kernel
theorem dX6_fail_25 : decode cX6_fail 25 = .ok (.iconst 1, 1) := by decide +kernel
theorem dX6_fail_26 : decode cX6_fail 26 = .ok (.iadd, 1) := by decide +kernel
theorem dX6_fail_27 : decode cX6_fail 27 = .ok (.putfield 74, 3) := by decide +kernel
theorem dX6_fail_30 : decode cX6_fail 30 = .ok (.aload_n 0, 1) := by decide +kernel
theorem dX6_fail_31 : decode cX6_fail 31 = .ok (.getfield 34, 3) := by decide +kernel
theorem dX6_fail_34 : decode cX6_fail 34 = .ok (.iload_n 3, 1) := by decide +kernel
theorem dX6_fail_35 : decode cX6_fail 35 = .ok (.invokevirtual 158, 3) := by decide +kernel
theorem dX6_fail_38 : decode cX6_fail 38 = .ok (.ifCond .eq 16, 3) := by decide +kernel
theorem dX6_fail_41 : decode cX6_fail 41 = .ok (.aload_n 0, 1) := by decide +kernel
theorem dX6_fail_42 : decode cX6_fail 42 = .ok (.iload_n 3, 1) := by decide +kernel
theorem dX6_fail_43 : decode cX6_fail 43 = .ok (.putfield 68, 3) := by decide +kernel
theorem dX6_fail_46 : decode cX6_fail 46 = .ok (.aload_n 0, 1) := by decide +kernel
theorem dX6_fail_47 : decode cX6_fail 47 = .ok (.iload_n 2, 1) := by decide +kernel
theorem dX6_fail_48 : decode cX6_fail 48 = .ok (.putfield 71, 3) := by decide +kernel
theorem dX6_fail_51 : decode cX6_fail 51 = .ok (.goto 11, 3) := by decide +kernel
theorem dX6_fail_54 : decode cX6_fail 54 = .ok (.aload_n 0, 1) := by decide +kernel
theorem dX6_fail_55 : decode cX6_fail 55 = .ok (.getfield 34, 3) := by decide +kernel
theorem dX6_fail_58 : decode cX6_fail 58 = .ok (.iload_n 3, 1) := by decide +kernel
theorem dX6_fail_59 : decode cX6_fail 59 = .ok (.invokevirtual 188, 3) := by decide +kernel
theorem dX6_fail_62 : decode cX6_fail 62 = .ok (.return_, 1) := by decide +kernel
set_option maxRecDepth 20000 in
theorem ggX6_doHolding_X6_hasStopped : GoodIn wsX6_doHolding wsX6_hasStopped := goodIn_r _ [5, 6, 36, 37, 38, 39, 40, 41, 42, 43, 44, 45, 46, 47, 48] (by decide +kernel) (by decide +kernel)
set_option maxRecDepth 20000 in
theorem gX6_doHolding_X6_hasStopped : GoodIn wsX6_doHolding (wsV RX6 109 RX6 yX6_hasStopped wsX6_hasStopped) := goodIn_app (goodIn_of _ (by decide +kernel)) ggX6_doHolding_X6_hasStopped
set_option maxRecDepth 20000 in
theorem ggX6_doHolding_X8_end : GoodIn wsX6_doHolding wsX8_end := goodIn_r _ [11, 12, 13, 14, 15, 16, 10, 17, 18, 19, 20, 49, 50, 51, 52, 53, 54, 55, 56] (by decide +kernel) (by decide +kernel)
set_option maxRecDepth 20000 in
theorem gX6_doHolding_X8_end : GoodIn wsX6_doHolding (wsV RX6 121 RX8 yX8_end wsX8_end) := goodIn_app (goodIn_of _ (by decide +kernel)) ggX6_doHolding_X8_end
set_option maxRecDepth 20000 in
theorem ggX6_doHolding_X6_layPack : GoodIn wsX6_doHolding wsX6_layPack := goodIn_r _ [24, 25, 26, 27, 28, 29, 30, 31, 32, 33, 34, 35, 15, 16, 10, 17, 12, 18, 19, 20, 36, 37, 38, 39, 40, 41, 42, 43, 44, 45, 46, 47, 48, 49, 50, 51, 52, 53, 54, 55, 56, 57, 58, 59, 60] (by decide +kernel) (by decide +kernel)
set_option maxRecDepth 20000 in
theorem gX6_doHolding_X6_layPack : GoodIn wsX6_doHolding (wsV RX6 182 RX6 yX6_layPack wsX6_layPack) := goodIn_app (goodIn_of _ (by decide +kernel)) ggX6_doHolding_X6_layPack
theorem dX6_doHolding_0 : decode cX6_doHolding 0 = .ok (.aload_n 0, 1) := by decide +kernel
theorem dX6_doHolding_1 : decode cX6_doHolding 1 = .ok (.invokevirtual 109, 3) := by decide +kernel
theorem dX6_doHolding_4 : decode cX6_doHolding 4 = .ok (.ifCond .eq 9, 3) := by decide +kernel
theorem dX6_doHolding_7 : decode cX6_doHolding 7 = .ok (.aload_n 1, 1) := by decide +kernel
theorem dX6_doHolding_8 : decode cX6_doHolding 8 = .ok (.invokevirtual 121, 3) := by decide +kernel
theorem dX6_doHolding_11 : decode cX6_doHolding 11 = .ok (.iconst 1, 1) := by decide +kernel
theorem dX6_doHolding_12 : decode cX6_doHolding 12 = .ok (.ireturn, 1) := by decide +kernel
theorem dX6_doHolding_13 : decode cX6_doHolding 13 = .ok (.aload_n 0, 1) := by decide +kernel
theorem dX6_doHolding_14 : decode cX6_doHolding 14 = .ok (.aload_n 1, 1) := by decide +kernel
theorem dX6_doHolding_15 : decode cX6_doHolding 15 = .ok (.invokevirtual 182, 3) := by decide +kernel
theorem dX6_doHolding_18 : decode cX6_doHolding 18 = .ok (.ireturn, 1) := by decide +kernel
set_option maxRecDepth 20000 in
theorem ggX6_layPack_X4_lay : GoodIn wsX6_layPack wsX4_lay := goodIn_r _ [6, 7, 8, 9, 10, 41, 42, 43, 44] (by decide +kernel) (by decide +kernel)
set_option maxRecDepth 20000 in
theorem gX6_layPack_X4_lay : GoodIn wsX6_layPack (wsV RX6 191 RX4 yX4_lay wsX4_lay) := goodIn_app (goodIn_of _ (by decide +kernel)) ggX6_layPack_X4_lay
set_option maxRecDepth 20000 in
theorem ggX6_layPack_X8_becomeFree : GoodIn wsX6_layPack wsX8_becomeFree := goodIn_r _ [15, 16, 17, 18, 19, 33, 34, 35, 36, 37, 38, 39, 40] (by decide +kernel) (by decide +kernel)
set_option maxRecDepth 20000 in
theorem gX6_layPack_X8_becomeFree : GoodIn wsX6_layPack (wsV RX6 185 RX8 yX8_becomeFree wsX8_becomeFree) := goodIn_app (goodIn_of _ (by decide +kernel)) ggX6_layPack_X8_becomeFree
theorem dX6_layPack_0 : decode cX6_layPack 0 = .ok (.aload_n 0, 1) := by decide +kernel
theorem dX6_layPack_1 : decode cX6_layPack 1 = .ok (.getfield 27, 3) := by decide +kernel
theorem dX6_layPack_4 : decode cX6_layPack 4 = .ok (.aload_n 1, 1) := by decide +kernel
theorem dX6_layPack_5 : decode cX6_layPack 5 = .ok (.getfield 152, 3) := by decide +kernel
theorem dX6_layPack_8 : decode cX6_layPack 8 = .ok (.invokevirtual 191, 3) := by decide +kernel
theorem dX6_layPack_11 : decode cX6_layPack 11 = .ok (.ifCond .ne 5, 3) := by decide +kernel
theorem dX6_layPack_14 : decode cX6_layPack 14 = .ok (.iconst 0, 1) := by decide +kernel
theorem dX6_layPack_15 : decode cX6_layPack 15 = .ok (.ireturn, 1) := by decide +kernel
theorem dX6_layPack_16 : decode cX6_layPack 16 = .ok (.aload_n 1, 1) := by decide +kernel
theorem dX6_layPack_17 : decode cX6_layPack 17 = .ok (.invokevirtual 185, 3) := by decide +kernel
theorem dX6_layPack_20 : decode cX6_layPack 20 = .ok (.iconst 1, 1) := by decide +kernel
theorem dX6_layPack_21 : decode cX6_layPack 21 = .ok (.ireturn, 1) := by decide +kernel
theorem dX6_hasStopped_0 : decode cX6_hasStopped 0 = .ok (.aload_n 0, 1) := by decide +kernel
theorem dX6_hasStopped_1 : decode cX6_hasStopped 1 = .ok (.getfield 68, 3) := by decide +kernel
theorem dX6_hasStopped_4 : decode cX6_hasStopped 4 = .ok (.iconst (-1), 1) := by decide +kernel
theorem dX6_hasStopped_5 : decode cX6_hasStopped 5 = .ok (.if_icmp .eq 7, 3) := by decide +kernel
theorem dX6_hasStopped_8 : decode cX6_hasStopped 8 = .ok (.iconst 1, 1) := by decide +kernel
theorem dX6_hasStopped_9 : decode cX6_hasStopped 9 = .ok (.goto 4, 3) := by decide +kernel
theorem dX6_hasStopped_12 : decode cX6_hasStopped 12 = .ok (.iconst 0, 1) := by decide +kernel
theorem dX6_hasStopped_13 : decode cX6_hasStopped 13 = .ok (.ireturn, 1) := by decide +kernel
set_option maxRecDepth 20000 in
theorem ggX6_isBlockDoneAgain_X0_has : GoodIn wsX6_isBlockDoneAgain wsX0_has := goodIn_r _ [7, 8, 30, 31, 32] (by decide +kernel) (by decide +kernel)
set_option maxRecDepth 20000 in
theorem gX6_isBlockDoneAgain_X0_has : GoodIn wsX6_isBlockDoneAgain (wsV RX6 158 RX0 yX0_has wsX0_has) := goodIn_app (goodIn_of _ (by decide +kernel)) ggX6_isBlockDoneAgain_X0_has
theorem dX6_isBlockDoneAgain_0 : decode cX6_isBlockDoneAgain 0 = .ok (.iconst 0, 1) := by decide +kernel
theorem dX6_isBlockDoneAgain_1 : decode cX6_isBlockDoneAgain 1 = .ok (.istore_n 1, 1) := by decide +kernel
theorem dX6_isBlockDoneAgain_2 : decode cX6_isBlockDoneAgain 2 = .ok (.iload_n 1, 1) := by decide +kernel
theorem dX6_isBlockDoneAgain_3 : decode cX6_isBlockDoneAgain 3 = .ok (.aload_n 0, 1) := by decide +kernel
theorem dX6_isBlockDoneAgain_4 : decode cX6_isBlockDoneAgain 4 = .ok (.getfield 11, 3) := by decide +kernel
theorem dX6_isBlockDoneAgain_7 : decode cX6_isBlockDoneAgain 7 = .ok (.arraylength, 1) := by decide +kernel
theorem dX6_isBlockDoneAgain_8 : decode cX6_isBlockDoneAgain 8 = .ok (.if_icmp .ge 40, 3) := by decide +kernel
theorem dX6_isBlockDoneAgain_11 : decode cX6_isBlockDoneAgain 11 = .ok (.aload_n 0, 1) := by decide +kernel
theorem dX6_isBlockDoneAgain_12 : decode cX6_isBlockDoneAgain 12 = .ok (.getfield 11, 3) := by decide +kernel
theorem dX6_isBlockDoneAgain_15 : decode cX6_isBlockDoneAgain 15 = .ok (.iload_n 1, 1) := by decide +kernel
theorem dX6_isBlockDoneAgain_16 : decode cX6_isBlockDoneAgain 16 = .ok (.aaload, 1) := by decide +kernel
theorem dX6_isBlockDoneAgain_17 : decode cX6_isBlockDoneAgain 17 = .ok (.astore_n 2, 1) := by decide +kernel
theorem dX6_isBlockDoneAgain_18 : decode cX6_isBlockDoneAgain 18 = .ok (.aload_n 2, 1) := by decide +kernel
theorem dX6_isBlockDoneAgain_19 : decode cX6_isBlockDoneAgain 19 = .ok (.getfield 92, 3) := by decide +kernel
theorem dX6_isBlockDoneAgain_22 : decode cX6_isBlockDoneAgain 22 = .ok (.iconst 2, 1) := by decide +kernel
theorem dX6_isBlockDoneAgain_23 : decode cX6_isBlockDoneAgain 23 = .ok (.if_icmp .ne 19, 3) := by decide +kernel
theorem dX6_isBlockDoneAgain_26 : decode cX6_isBlockDoneAgain 26 = .ok (.aload_n 0, 1) := by decide +kernel
theorem dX6_isBlockDoneAgain_27 : decode cX6_isBlockDoneAgain 27 = .ok (.getfield 34, 3) := by decide +kernel
theorem dX6_isBlockDoneAgain_30 : decode cX6_isBlockDoneAgain 30 = .ok (.aload_n 2, 1) := by decide +kernel
theorem dX6_isBlockDoneAgain_31 : decode cX6_isBlockDoneAgain 31 = .ok (.getfield 152, 3) := by decide +kernel
theorem dX6_isBlockDoneAgain_34 : decode cX6_isBlockDoneAgain 34 = .ok (.invokevirtual 158, 3) := by decide +kernel
theorem dX6_isBlockDoneAgain_37 : decode cX6_isBlockDoneAgain 37 = .ok (.ifCond .eq 5, 3) := by decide +kernel
theorem dX6_isBlockDoneAgain_40 : decode cX6_isBlockDoneAgain 40 = .ok (.iconst 1, 1) := by decide +kernel
theorem dX6_isBlockDoneAgain_41 : decode cX6_isBlockDoneAgain 41 = .ok (.ireturn, 1) := by decide +kernel
theorem dX6_isBlockDoneAgain_42 : decode cX6_isBlockDoneAgain 42 = .ok (.iinc 1 1, 3) := by decide +kernel
theorem dX6_isBlockDoneAgain_45 : decode cX6_isBlockDoneAgain 45 = .ok (.goto (-43), 3) := by decide +kernel
theorem dX6_isBlockDoneAgain_48 : decode cX6_isBlockDoneAgain 48 = .ok (.iconst 0, 1) := by decide +kernel
theorem dX6_isBlockDoneAgain_49 : decode cX6_isBlockDoneAgain 49 = .ok (.ireturn, 1) := by decide +kernel
theorem dX6_isAnyAtWork_0 : decode cX6_isAnyAtWork 0 = .ok (.iconst 0, 1) := by decide +kernel
theorem dX6_isAnyAtWork_1 : decode cX6_isAnyAtWork 1 = .ok (.istore_n 1, 1) := by decide +kernel
theorem dX6_isAnyAtWork_2 : decode cX6_isAnyAtWork 2 = .ok (.iload_n 1, 1) := by decide +kernel
theorem dX6_isAnyAtWork_3 : decode cX6_isAnyAtWork 3 = .ok (.aload_n 0, 1) := by decide +kernel
theorem dX6_isAnyAtWork_4 : decode cX6_isAnyAtWork 4 = .ok (.getfield 11, 3) := by decide +kernel
theorem dX6_isAnyAtWork_7 : decode cX6_isAnyAtWork 7 = .ok (.arraylength, 1) := by decide +kernel
theorem dX6_isAnyAtWork_8 : decode cX6_isAnyAtWork 8 = .ok (.if_icmp .ge 24, 3) := by decide +kernel
theorem dX6_isAnyAtWork_11 : decode cX6_isAnyAtWork 11 = .ok (.aload_n 0, 1) := by decide +kernel
theorem dX6_isAnyAtWork_12 : decode cX6_isAnyAtWork 12 = .ok (.getfield 11, 3) := by decide +kernel
theorem dX6_isAnyAtWork_15 : decode cX6_isAnyAtWork 15 = .ok (.iload_n 1, 1) := by decide +kernel
theorem dX6_isAnyAtWork_16 : decode cX6_isAnyAtWork 16 = .ok (.aaload, 1) := by decide +kernel
theorem dX6_isAnyAtWork_17 : decode cX6_isAnyAtWork 17 = .ok (.getfield 92, 3) := by decide +kernel
theorem dX6_isAnyAtWork_20 : decode cX6_isAnyAtWork 20 = .ok (.iconst 2, 1) := by decide +kernel
theorem dX6_isAnyAtWork_21 : decode cX6_isAnyAtWork 21 = .ok (.if_icmp .ne 5, 3) := by decide +kernel
theorem dX6_isAnyAtWork_24 : decode cX6_isAnyAtWork 24 = .ok (.iconst 1, 1) := by decide +kernel
theorem dX6_isAnyAtWork_25 : decode cX6_isAnyAtWork 25 = .ok (.ireturn, 1) := by decide +kernel
theorem dX6_isAnyAtWork_26 : decode cX6_isAnyAtWork 26 = .ok (.iinc 1 1, 3) := by decide +kernel
theorem dX6_isAnyAtWork_29 : decode cX6_isAnyAtWork 29 = .ok (.goto (-27), 3) := by decide +kernel
theorem dX6_isAnyAtWork_32 : decode cX6_isAnyAtWork 32 = .ok (.iconst 0, 1) := by decide +kernel
theorem dX6_isAnyAtWork_33 : decode cX6_isAnyAtWork 33 = .ok (.ireturn, 1) := by decide +kernel
theorem dX6_allEnded_0 : decode cX6_allEnded 0 = .ok (.iconst 0, 1) := by decide +kernel
theorem dX6_allEnded_1 : decode cX6_allEnded 1 = .ok (.istore_n 1, 1) := by decide +kernel
theorem dX6_allEnded_2 : decode cX6_allEnded 2 = .ok (.iload_n 1, 1) := by decide +kernel
theorem dX6_allEnded_3 : decode cX6_allEnded 3 = .ok (.aload_n 0, 1) := by decide +kernel
theorem dX6_allEnded_4 : decode cX6_allEnded 4 = .ok (.getfield 49, 3) := by decide +kernel
theorem dX6_allEnded_7 : decode cX6_allEnded 7 = .ok (.if_icmp .ge 33, 3) := by decide +kernel
theorem dX6_allEnded_10 : decode cX6_allEnded 10 = .ok (.iload_n 1, 1) := by decide +kernel
theorem dX6_allEnded_11 : decode cX6_allEnded 11 = .ok (.aload_n 0, 1) := by decide +kernel
theorem dX6_allEnded_12 : decode cX6_allEnded 12 = .ok (.getfield 11, 3) := by decide +kernel
theorem dX6_allEnded_15 : decode cX6_allEnded 15 = .ok (.arraylength, 1) := by decide +kernel
theorem dX6_allEnded_16 : decode cX6_allEnded 16 = .ok (.if_icmp .ge 24, 3) := by decide +kernel
theorem dX6_allEnded_19 : decode cX6_allEnded 19 = .ok (.aload_n 0, 1) := by decide +kernel
theorem dX6_allEnded_20 : decode cX6_allEnded 20 = .ok (.getfield 11, 3) := by decide +kernel
theorem dX6_allEnded_23 : decode cX6_allEnded 23 = .ok (.iload_n 1, 1) := by decide +kernel
theorem dX6_allEnded_24 : decode cX6_allEnded 24 = .ok (.aaload, 1) := by decide +kernel
theorem dX6_allEnded_25 : decode cX6_allEnded 25 = .ok (.getfield 92, 3) := by decide +kernel
theorem dX6_allEnded_28 : decode cX6_allEnded 28 = .ok (.iconst 4, 1) := by decide +kernel
theorem dX6_allEnded_29 : decode cX6_allEnded 29 = .ok (.if_icmp .eq 5, 3) := by decide +kernel
theorem dX6_allEnded_32 : decode cX6_allEnded 32 = .ok (.iconst 0, 1) := by decide +kernel
theorem dX6_allEnded_33 : decode cX6_allEnded 33 = .ok (.ireturn, 1) := by decide +kernel
theorem dX6_allEnded_34 : decode cX6_allEnded 34 = .ok (.iinc 1 1, 3) := by decide +kernel
theorem dX6_allEnded_37 : decode cX6_allEnded 37 = .ok (.goto (-35), 3) := by decide +kernel
theorem dX6_allEnded_40 : decode cX6_allEnded 40 = .ok (.iconst 1, 1) := by decide +kernel
theorem dX6_allEnded_41 : decode cX6_allEnded 41 = .ok (.ireturn, 1) := by decide +kernel
set_option maxRecDepth 20000 in
theorem ggX6_markInterrupted_X6_worker : GoodIn wsX6_markInterrupted wsX6_worker := goodIn_r _ [5, 6, 7, 16, 17, 18, 19, 20, 21, 22, 23, 24, 25, 26, 27, 28] (by decide +kernel) (by decide +kernel)
set_option maxRecDepth 20000 in
theorem gX6_markInterrupted_X6_worker : GoodIn wsX6_markInterrupted (wsV RX6 88 RX6 yX6_worker wsX6_worker) := goodIn_app (goodIn_of _ (by decide +kernel)) ggX6_markInterrupted_X6_worker
theorem dX6_markInterrupted_0 : decode cX6_markInterrupted 0 = .ok (.aload_n 0, 1) := by decide +kernel
theorem dX6_markInterrupted_1 : decode cX6_markInterrupted 1 = .ok (.iload_n 1, 1) := by decide +kernel
theorem dX6_markInterrupted_2 : decode cX6_markInterrupted 2 = .ok (.invokevirtual 88, 3) := by decide +kernel
theorem dX6_markInterrupted_5 : decode cX6_markInterrupted 5 = .ok (.astore_n 2, 1) := by decide +kernel
theorem dX6_markInterrupted_6 : decode cX6_markInterrupted 6 = .ok (.aload_n 2, 1) := by decide +kernel
theorem dX6_markInterrupted_7 : decode cX6_markInterrupted 7 = .ok (.ifnull 18, 3) := by decide +kernel
theorem dX6_markInterrupted_10 : decode cX6_markInterrupted 10 = .ok (.aload_n 2, 1) := by decide +kernel
theorem dX6_markInterrupted_11 : decode cX6_markInterrupted 11 = .ok (.getfield 105, 3) := by decide +kernel
theorem dX6_markInterrupted_14 : decode cX6_markInterrupted 14 = .ok (.ifCond .ne 11, 3) := by decide +kernel
theorem dX6_markInterrupted_17 : decode cX6_markInterrupted 17 = .ok (.aload_n 2, 1) := by decide +kernel
theorem dX6_markInterrupted_18 : decode cX6_markInterrupted 18 = .ok (.getfield 92, 3) := by decide +kernel
theorem dX6_markInterrupted_21 : decode cX6_markInterrupted 21 = .ok (.iconst 4, 1) := by decide +kernel
theorem dX6_markInterrupted_22 : decode cX6_markInterrupted 22 = .ok (.if_icmp .ne 5, 3) := by decide +kernel
theorem dX6_markInterrupted_25 : decode cX6_markInterrupted 25 = .ok (.iconst 0, 1) := by decide +kernel
theorem dX6_markInterrupted_26 : decode cX6_markInterrupted 26 = .ok (.ireturn, 1) := by decide +kernel
theorem dX6_markInterrupted_27 : decode cX6_markInterrupted 27 = .ok (.aload_n 2, 1) := by decide +kernel
theorem dX6_markInterrupted_28 : decode cX6_markInterrupted 28 = .ok (.iconst 1, 1) := by decide +kernel
theorem dX6_markInterrupted_29 : decode cX6_markInterrupted 29 = .ok (.putfield 105, 3) := by decide +kernel
theorem dX6_markInterrupted_32 : decode cX6_markInterrupted 32 = .ok (.iconst 1, 1) := by decide +kernel
theorem dX6_markInterrupted_33 : decode cX6_markInterrupted 33 = .ok (.ireturn, 1) := by decide +kernel
set_option maxRecDepth 20000 in
theorem ggX6_endAll_X1_giveBack : GoodIn wsX6_endAll wsX1_giveBack := goodIn_r _ [8, 9, 10, 11, 12, 13, 14, 7, 15, 16, 17, 18, 19, 20, 21, 22, 47, 48, 49, 50, 51, 52, 53, 54, 55, 56, 57] (by decide +kernel) (by decide +kernel)
set_option maxRecDepth 20000 in
theorem gX6_endAll_X1_giveBack : GoodIn wsX6_endAll (wsV RX6 176 RX1 yX1_giveBack wsX1_giveBack) := goodIn_app (goodIn_of _ (by decide +kernel)) ggX6_endAll_X1_giveBack
set_option maxRecDepth 20000 in
theorem ggX6_endAll_X8_end : GoodIn wsX6_endAll wsX8_end := goodIn_r _ [26, 21, 27, 28, 29, 30, 19, 31, 32, 22, 33, 50, 51, 52, 53, 54, 55, 56, 57] (by decide +kernel) (by decide +kernel)
set_option maxRecDepth 20000 in
theorem gX6_endAll_X8_end : GoodIn wsX6_endAll (wsV RX6 121 RX8 yX8_end wsX8_end) := goodIn_app (goodIn_of _ (by decide +kernel)) ggX6_endAll_X8_end
theorem dX6_endAll_0 : decode cX6_endAll 0 = .ok (.iconst 0, 1) := by decide +kernel
theorem dX6_endAll_1 : decode cX6_endAll 1 = .ok (.istore_n 1, 1) := by decide +kernel
theorem dX6_endAll_2 : decode cX6_endAll 2 = .ok (.aload_n 0, 1) := by decide +kernel
theorem dX6_endAll_3 : decode cX6_endAll 3 = .ok (.getfield 20, 3) := by decide +kernel
theorem dX6_endAll_6 : decode cX6_endAll 6 = .ok (.iconst 0, 1) := by decide +kernel
theorem dX6_endAll_7 : decode cX6_endAll 7 = .ok (.putfield 194, 3) := by decide +kernel
theorem dX6_endAll_10 : decode cX6_endAll 10 = .ok (.iconst 0, 1) := by decide +kernel
theorem dX6_endAll_11 : decode cX6_endAll 11 = .ok (.istore_n 2, 1) := by decide +kernel
theorem dX6_endAll_12 : decode cX6_endAll 12 = .ok (.iload_n 2, 1) := by decide +kernel
theorem dX6_endAll_13 : decode cX6_endAll 13 = .ok (.aload_n 0, 1) := by decide +kernel
theorem dX6_endAll_14 : decode cX6_endAll 14 = .ok (.getfield 49, 3) := by decide +kernel
theorem dX6_endAll_17 : decode cX6_endAll 17 = .ok (.if_icmp .ge 59, 3) := by decide +kernel
theorem dX6_endAll_20 : decode cX6_endAll 20 = .ok (.iload_n 2, 1) := by decide +kernel
theorem dX6_endAll_21 : decode cX6_endAll 21 = .ok (.aload_n 0, 1) := by decide +kernel
theorem dX6_endAll_22 : decode cX6_endAll 22 = .ok (.getfield 11, 3) := by decide +kernel
theorem dX6_endAll_25 : decode cX6_endAll 25 = .ok (.arraylength, 1) := by decide +kernel
theorem dX6_endAll_26 : decode cX6_endAll 26 = .ok (.if_icmp .ge 50, 3) := by decide +kernel
theorem dX6_endAll_29 : decode cX6_endAll 29 = .ok (.aload_n 0, 1) := by decide +kernel
theorem dX6_endAll_30 : decode cX6_endAll 30 = .ok (.getfield 11, 3) := by decide +kernel
theorem dX6_endAll_33 : decode cX6_endAll 33 = .ok (.iload_n 2, 1) := by decide +kernel
theorem dX6_endAll_34 : decode cX6_endAll 34 = .ok (.aaload, 1) := by decide +kernel
theorem dX6_endAll_35 : decode cX6_endAll 35 = .ok (.astore_n 3, 1) := by decide +kernel
theorem dX6_endAll_36 : decode cX6_endAll 36 = .ok (.aload_n 3, 1) := by decide +kernel
theorem dX6_endAll_37 : decode cX6_endAll 37 = .ok (.getfield 92, 3) := by decide +kernel
theorem dX6_endAll_40 : decode cX6_endAll 40 = .ok (.iconst 2, 1) := by decide +kernel
theorem dX6_endAll_41 : decode cX6_endAll 41 = .ok (.if_icmp .ne 14, 3) := by decide +kernel
theorem dX6_endAll_44 : decode cX6_endAll 44 = .ok (.aload_n 0, 1) := by decide +kernel
theorem dX6_endAll_45 : decode cX6_endAll 45 = .ok (.getfield 20, 3) := by decide +kernel
theorem dX6_endAll_48 : decode cX6_endAll 48 = .ok (.aload_n 3, 1) := by decide +kernel
theorem dX6_endAll_49 : decode cX6_endAll 49 = .ok (.getfield 173, 3) := by decide +kernel
theorem dX6_endAll_52 : decode cX6_endAll 52 = .ok (.invokevirtual 176, 3) := by decide +kernel
theorem dX6_endAll_55 : decode cX6_endAll 55 = .ok (.aload_n 3, 1) := by decide +kernel
theorem dX6_endAll_56 : decode cX6_endAll 56 = .ok (.getfield 92, 3) := by decide +kernel
theorem dX6_endAll_59 : decode cX6_endAll 59 = .ok (.iconst 4, 1) := by decide +kernel
theorem dX6_endAll_60 : decode cX6_endAll 60 = .ok (.if_icmp .eq 10, 3) := by decide +kernel
theorem dX6_endAll_63 : decode cX6_endAll 63 = .ok (.aload_n 3, 1) := by decide +kernel
theorem dX6_endAll_64 : decode cX6_endAll 64 = .ok (.invokevirtual 121, 3) := by decide +kernel
theorem dX6_endAll_67 : decode cX6_endAll 67 = .ok (.iinc 1 1, 3) := by decide +kernel
theorem dX6_endAll_70 : decode cX6_endAll 70 = .ok (.iinc 2 1, 3) := by decide +kernel
theorem dX6_endAll_73 : decode cX6_endAll 73 = .ok (.goto (-61), 3) := by decide +kernel
theorem dX6_endAll_76 : decode cX6_endAll 76 = .ok (.iload_n 1, 1) := by decide +kernel
theorem dX6_endAll_77 : decode cX6_endAll 77 = .ok (.ireturn, 1) := by decide +kernel
set_option maxRecDepth 20000 in
theorem ggX6_joinedBytes_X2_lengthOfFirst : GoodIn wsX6_joinedBytes wsX2_lengthOfFirst := goodIn_r _ [7, 8, 26, 27, 28, 29, 30, 31, 32, 33, 34] (by decide +kernel) (by decide +kernel)
set_option maxRecDepth 20000 in
theorem gX6_joinedBytes_X2_lengthOfFirst : GoodIn wsX6_joinedBytes (wsV RX6 195 RX2 yX2_lengthOfFirst wsX2_lengthOfFirst) := goodIn_app (goodIn_of _ (by decide +kernel)) ggX6_joinedBytes_X2_lengthOfFirst
theorem dX6_joinedBytes_0 : decode cX6_joinedBytes 0 = .ok (.aload_n 0, 1) := by decide +kernel
theorem dX6_joinedBytes_1 : decode cX6_joinedBytes 1 = .ok (.getfield 38, 3) := by decide +kernel
theorem dX6_joinedBytes_4 : decode cX6_joinedBytes 4 = .ok (.aload_n 0, 1) := by decide +kernel
theorem dX6_joinedBytes_5 : decode cX6_joinedBytes 5 = .ok (.getfield 27, 3) := by decide +kernel
theorem dX6_joinedBytes_8 : decode cX6_joinedBytes 8 = .ok (.getfield 112, 3) := by decide +kernel
theorem dX6_joinedBytes_11 : decode cX6_joinedBytes 11 = .ok (.invokevirtual 195, 3) := by decide +kernel
theorem dX6_joinedBytes_14 : decode cX6_joinedBytes 14 = .ok (.ireturn, 1) := by decide +kernel
set_option maxRecDepth 20000 in
theorem ggX6_numberInLine_X1_numberAt : GoodIn wsX6_numberInLine wsX1_numberAt := goodIn_r _ [6, 7, 8, 22, 23, 24, 25, 26, 27, 28, 29, 30, 31, 32] (by decide +kernel) (by decide +kernel)
set_option maxRecDepth 20000 in
theorem gX6_numberInLine_X1_numberAt : GoodIn wsX6_numberInLine (wsV RX6 198 RX1 yX1_numberAt wsX1_numberAt) := goodIn_app (goodIn_of _ (by decide +kernel)) ggX6_numberInLine_X1_numberAt
theorem dX6_numberInLine_0 : decode cX6_numberInLine 0 = .ok (.aload_n 0, 1) := by decide +kernel
theorem dX6_numberInLine_1 : decode cX6_numberInLine 1 = .ok (.getfield 20, 3) := by decide +kernel
theorem dX6_numberInLine_4 : decode cX6_numberInLine 4 = .ok (.iload_n 1, 1) := by decide +kernel
theorem dX6_numberInLine_5 : decode cX6_numberInLine 5 = .ok (.invokevirtual 198, 3) := by decide +kernel
theorem dX6_numberInLine_8 : decode cX6_numberInLine 8 = .ok (.ireturn, 1) := by decide +kernel
set_option maxRecDepth 20000 in
theorem ggX6_tellOfThread_X6_worker : GoodIn wsX6_tellOfThread wsX6_worker := goodIn_r _ [5, 6, 7, 16, 17, 18, 19, 20, 21, 22, 23, 24, 25, 26, 27, 28] (by decide +kernel) (by decide +kernel)
set_option maxRecDepth 20000 in
theorem gX6_tellOfThread_X6_worker : GoodIn wsX6_tellOfThread (wsV RX6 88 RX6 yX6_worker wsX6_worker) := goodIn_app (goodIn_of _ (by decide +kernel)) ggX6_tellOfThread_X6_worker
theorem dX6_tellOfThread_0 : decode cX6_tellOfThread 0 = .ok (.aload_n 0, 1) := by decide +kernel
theorem dX6_tellOfThread_1 : decode cX6_tellOfThread 1 = .ok (.iload_n 1, 1) := by decide +kernel
theorem dX6_tellOfThread_2 : decode cX6_tellOfThread 2 = .ok (.invokevirtual 88, 3) := by decide +kernel
theorem dX6_tellOfThread_5 : decode cX6_tellOfThread 5 = .ok (.astore_n 3, 1) := by decide +kernel
theorem dX6_tellOfThread_6 : decode cX6_tellOfThread 6 = .ok (.aload_n 3, 1) := by decide +kernel
theorem dX6_tellOfThread_7 : decode cX6_tellOfThread 7 = .ok (.ifnonnull 6, 3) := by decide +kernel
theorem dX6_tellOfThread_10 : decode cX6_tellOfThread 10 = .ok (.bipush (-2), 2) := by decide +kernel
theorem dX6_tellOfThread_12 : decode cX6_tellOfThread 12 = .ok (.ireturn, 1) := by decide +kernel
theorem dX6_tellOfThread_13 : decode cX6_tellOfThread 13 = .ok (.iload_n 2, 1) := by decide +kernel
theorem dX6_tellOfThread_14 : decode cX6_tellOfThread 14 = .ok (.tableswitch 50 0 3 #[30, 35, 40, 45], 30) := by decide +kernel
theorem dX6_tellOfThread_44 : decode cX6_tellOfThread 44 = .ok (.aload_n 3, 1) := by decide +kernel
theorem dX6_tellOfThread_45 : decode cX6_tellOfThread 45 = .ok (.getfield 92, 3) := by decide +kernel
theorem dX6_tellOfThread_48 : decode cX6_tellOfThread 48 = .ok (.ireturn, 1) := by decide +kernel
theorem dX6_tellOfThread_49 : decode cX6_tellOfThread 49 = .ok (.aload_n 3, 1) := by decide +kernel
theorem dX6_tellOfThread_50 : decode cX6_tellOfThread 50 = .ok (.getfield 152, 3) := by decide +kernel
theorem dX6_tellOfThread_53 : decode cX6_tellOfThread 53 = .ok (.ireturn, 1) := by decide +kernel
theorem dX6_tellOfThread_54 : decode cX6_tellOfThread 54 = .ok (.aload_n 3, 1) := by decide +kernel
theorem dX6_tellOfThread_55 : decode cX6_tellOfThread 55 = .ok (.getfield 155, 3) := by decide +kernel
theorem dX6_tellOfThread_58 : decode cX6_tellOfThread 58 = .ok (.ireturn, 1) := by decide +kernel
theorem dX6_tellOfThread_59 : decode cX6_tellOfThread 59 = .ok (.aload_n 3, 1) := by decide +kernel
theorem dX6_tellOfThread_60 : decode cX6_tellOfThread 60 = .ok (.getfield 201, 3) := by decide +kernel
theorem dX6_tellOfThread_63 : decode cX6_tellOfThread 63 = .ok (.ireturn, 1) := by decide +kernel
theorem dX6_tellOfThread_64 : decode cX6_tellOfThread 64 = .ok (.aload_n 3, 1) := by decide +kernel
theorem dX6_tellOfThread_65 : decode cX6_tellOfThread 65 = .ok (.getfield 204, 3) := by decide +kernel
theorem dX6_tellOfThread_68 : decode cX6_tellOfThread 68 = .ok (.ireturn, 1) := by decide +kernel
set_option maxRecDepth 20000 in
theorem ggX6_tellOfStores_X2_blocks : GoodIn wsX6_tellOfStores wsX2_blocks := goodIn_r _ [8, 9, 40, 41, 42, 43, 44, 45, 46, 47, 48] (by decide +kernel) (by decide +kernel)
set_option maxRecDepth 20000 in
theorem gX6_tellOfStores_X2_blocks : GoodIn wsX6_tellOfStores (wsV RX6 115 RX2 yX2_blocks wsX2_blocks) := goodIn_app (goodIn_of _ (by decide +kernel)) ggX6_tellOfStores_X2_blocks
set_option maxRecDepth 20000 in
theorem ggX6_tellOfStores_X6_joinedBytes : GoodIn wsX6_tellOfStores wsX6_joinedBytes := goodIn_r _ [14, 1, 2, 15, 16, 17, 7, 18, 19, 20, 21, 22, 23, 24, 25, 26, 27, 28, 29, 30, 31, 32, 33, 34, 35, 36, 40, 41, 42, 43, 44, 45, 46, 47, 48] (by decide +kernel) (by decide +kernel)
set_option maxRecDepth 20000 in
theorem gX6_tellOfStores_X6_joinedBytes : GoodIn wsX6_tellOfStores (wsV RX6 207 RX6 yX6_joinedBytes wsX6_joinedBytes) := goodIn_app (goodIn_of _ (by decide +kernel)) ggX6_tellOfStores_X6_joinedBytes
theorem dX6_tellOfStores_0 : decode cX6_tellOfStores 0 = .ok (.iload_n 1, 1) := by decide +kernel
theorem dX6_tellOfStores_1 : decode cX6_tellOfStores 1 = .ok (.tableswitch 72 0 4 #[35, 43, 51, 56, 64], 35) := by decide +kernel
theorem dX6_tellOfStores_36 : decode cX6_tellOfStores 36 = .ok (.aload_n 0, 1) := by decide +kernel
theorem dX6_tellOfStores_37 : decode cX6_tellOfStores 37 = .ok (.getfield 38, 3) := by decide +kernel
theorem dX6_tellOfStores_40 : decode cX6_tellOfStores 40 = .ok (.invokevirtual 115, 3) := by decide +kernel
theorem dX6_tellOfStores_43 : decode cX6_tellOfStores 43 = .ok (.ireturn, 1) := by decide +kernel
theorem dX6_tellOfStores_44 : decode cX6_tellOfStores 44 = .ok (.aload_n 0, 1) := by decide +kernel
theorem dX6_tellOfStores_45 : decode cX6_tellOfStores 45 = .ok (.getfield 27, 3) := by decide +kernel
theorem dX6_tellOfStores_48 : decode cX6_tellOfStores 48 = .ok (.getfield 112, 3) := by decide +kernel
theorem dX6_tellOfStores_51 : decode cX6_tellOfStores 51 = .ok (.ireturn, 1) := by decide +kernel
theorem dX6_tellOfStores_52 : decode cX6_tellOfStores 52 = .ok (.aload_n 0, 1) := by decide +kernel
theorem dX6_tellOfStores_53 : decode cX6_tellOfStores 53 = .ok (.invokevirtual 207, 3) := by decide +kernel
theorem dX6_tellOfStores_56 : decode cX6_tellOfStores 56 = .ok (.ireturn, 1) := by decide +kernel
theorem dX6_tellOfStores_57 : decode cX6_tellOfStores 57 = .ok (.aload_n 0, 1) := by decide +kernel
theorem dX6_tellOfStores_58 : decode cX6_tellOfStores 58 = .ok (.getfield 20, 3) := by decide +kernel
theorem dX6_tellOfStores_61 : decode cX6_tellOfStores 61 = .ok (.getfield 210, 3) := by decide +kernel
theorem dX6_tellOfStores_64 : decode cX6_tellOfStores 64 = .ok (.ireturn, 1) := by decide +kernel
theorem dX6_tellOfStores_65 : decode cX6_tellOfStores 65 = .ok (.aload_n 0, 1) := by decide +kernel
theorem dX6_tellOfStores_66 : decode cX6_tellOfStores 66 = .ok (.getfield 20, 3) := by decide +kernel
theorem dX6_tellOfStores_69 : decode cX6_tellOfStores 69 = .ok (.getfield 194, 3) := by decide +kernel
theorem dX6_tellOfStores_72 : decode cX6_tellOfStores 72 = .ok (.ireturn, 1) := by decide +kernel
theorem dX6_tellOfStores_73 : decode cX6_tellOfStores 73 = .ok (.aload_n 0, 1) := by decide +kernel
theorem dX6_tellOfStores_74 : decode cX6_tellOfStores 74 = .ok (.getfield 27, 3) := by decide +kernel
theorem dX6_tellOfStores_77 : decode cX6_tellOfStores 77 = .ok (.getfield 213, 3) := by decide +kernel
theorem dX6_tellOfStores_80 : decode cX6_tellOfStores 80 = .ok (.ireturn, 1) := by decide +kernel
theorem dX6_tellOfCourse_0 : decode cX6_tellOfCourse 0 = .ok (.iload_n 1, 1) := by decide +kernel
theorem dX6_tellOfCourse_1 : decode cX6_tellOfCourse 1 = .ok (.tableswitch 51 6 9 #[31, 36, 41, 46], 31) := by decide +kernel
theorem dX6_tellOfCourse_32 : decode cX6_tellOfCourse 32 = .ok (.aload_n 0, 1) := by decide +kernel
theorem dX6_tellOfCourse_33 : decode cX6_tellOfCourse 33 = .ok (.getfield 68, 3) := by decide +kernel
theorem dX6_tellOfCourse_36 : decode cX6_tellOfCourse 36 = .ok (.ireturn, 1) := by decide +kernel
theorem dX6_tellOfCourse_37 : decode cX6_tellOfCourse 37 = .ok (.aload_n 0, 1) := by decide +kernel
theorem dX6_tellOfCourse_38 : decode cX6_tellOfCourse 38 = .ok (.getfield 71, 3) := by decide +kernel
theorem dX6_tellOfCourse_41 : decode cX6_tellOfCourse 41 = .ok (.ireturn, 1) := by decide +kernel
theorem dX6_tellOfCourse_42 : decode cX6_tellOfCourse 42 = .ok (.aload_n 0, 1) := by decide +kernel
theorem dX6_tellOfCourse_43 : decode cX6_tellOfCourse 43 = .ok (.getfield 74, 3) := by decide +kernel
theorem dX6_tellOfCourse_46 : decode cX6_tellOfCourse 46 = .ok (.ireturn, 1) := by decide +kernel
theorem dX6_tellOfCourse_47 : decode cX6_tellOfCourse 47 = .ok (.aload_n 0, 1) := by decide +kernel
theorem dX6_tellOfCourse_48 : decode cX6_tellOfCourse 48 = .ok (.getfield 77, 3) := by decide +kernel
theorem dX6_tellOfCourse_51 : decode cX6_tellOfCourse 51 = .ok (.ireturn, 1) := by decide +kernel
theorem dX6_tellOfCourse_52 : decode cX6_tellOfCourse 52 = .ok (.aload_n 0, 1) := by decide +kernel
theorem dX6_tellOfCourse_53 : decode cX6_tellOfCourse 53 = .ok (.getfield 34, 3) := by decide +kernel
theorem dX6_tellOfCourse_56 : decode cX6_tellOfCourse 56 = .ok (.getfield 127, 3) := by decide +kernel
theorem dX6_tellOfCourse_59 : decode cX6_tellOfCourse 59 = .ok (.ireturn, 1) := by decide +kernel
theorem dX7_init_0 : decode cX7_init 0 = .ok (.aload_n 0, 1) := by decide +kernel
theorem dX7_init_1 : decode cX7_init 1 = .ok (.invokespecial 3, 3) := by decide +kernel
theorem dX7_init_4 : decode cX7_init 4 = .ok (.aload_n 0, 1) := by decide +kernel
theorem dX7_init_5 : decode cX7_init 5 = .ok (.sipush 160, 3) := by decide +kernel
theorem dX7_init_8 : decode cX7_init 8 = .ok (.newarray .int, 2) := by decide +kernel
theorem dX7_init_10 : decode cX7_init 10 = .ok (.putfield 9, 3) := by decide +kernel
theorem dX7_init_13 : decode cX7_init 13 = .ok (.return_, 1) := by decide +kernel
theorem dX7_length_0 : decode cX7_length 0 = .ok (.aload_n 0, 1) := by decide +kernel
theorem dX7_length_1 : decode cX7_length 1 = .ok (.getfield 15, 3) := by decide +kernel
theorem dX7_length_4 : decode cX7_length 4 = .ok (.ireturn, 1) := by decide +kernel
theorem dX7_isFull_0 : decode cX7_isFull 0 = .ok (.aload_n 0, 1) := by decide +kernel
theorem dX7_isFull_1 : decode cX7_isFull 1 = .ok (.getfield 15, 3) := by decide +kernel
theorem dX7_isFull_4 : decode cX7_isFull 4 = .ok (.aload_n 0, 1) := by decide +kernel
theorem dX7_isFull_5 : decode cX7_isFull 5 = .ok (.getfield 9, 3) := by decide +kernel
theorem dX7_isFull_8 : decode cX7_isFull 8 = .ok (.arraylength, 1) := by decide +kernel
theorem dX7_isFull_9 : decode cX7_isFull 9 = .ok (.if_icmp .lt 7, 3) := by decide +kernel
theorem dX7_isFull_12 : decode cX7_isFull 12 = .ok (.iconst 1, 1) := by decide +kernel
theorem dX7_isFull_13 : decode cX7_isFull 13 = .ok (.goto 4, 3) := by decide +kernel
theorem dX7_isFull_16 : decode cX7_isFull 16 = .ok (.iconst 0, 1) := by decide +kernel
theorem dX7_isFull_17 : decode cX7_isFull 17 = .ok (.ireturn, 1) := by decide +kernel
theorem dX7_add_0 : decode cX7_add 0 = .ok (.aload_n 0, 1) := by decide +kernel
theorem dX7_add_1 : decode cX7_add 1 = .ok (.getfield 15, 3) := by decide +kernel
theorem dX7_add_4 : decode cX7_add 4 = .ok (.ifCond .lt 35, 3) := by decide +kernel
theorem dX7_add_7 : decode cX7_add 7 = .ok (.aload_n 0, 1) := by decide +kernel
theorem dX7_add_8 : decode cX7_add 8 = .ok (.getfield 15, 3) := by decide +kernel
theorem dX7_add_11 : decode cX7_add 11 = .ok (.aload_n 0, 1) := by decide +kernel
theorem dX7_add_12 : decode cX7_add 12 = .ok (.getfield 9, 3) := by decide +kernel
theorem dX7_add_15 : decode cX7_add 15 = .ok (.arraylength, 1) := by decide +kernel
theorem dX7_add_16 : decode cX7_add 16 = .ok (.if_icmp .ge 23, 3) := by decide +kernel
theorem dX7_add_19 : decode cX7_add 19 = .ok (.aload_n 0, 1) := by decide +kernel
theorem dX7_add_20 : decode cX7_add 20 = .ok (.getfield 9, 3) := by decide +kernel
theorem dX7_add_23 : decode cX7_add 23 = .ok (.aload_n 0, 1) := by decide +kernel
theorem dX7_add_24 : decode cX7_add 24 = .ok (.getfield 15, 3) := by decide +kernel
theorem dX7_add_27 : decode cX7_add 27 = .ok (.iload_n 1, 1) := by decide +kernel
theorem dX7_add_28 : decode cX7_add 28 = .ok (.iastore, 1) := by decide +kernel
theorem dX7_add_29 : decode cX7_add 29 = .ok (.aload_n 0, 1) := by decide +kernel
theorem dX7_add_30 : decode cX7_add 30 = .ok (.dup, 1) := by decide +kernel
theorem dX7_add_31 : decode cX7_add 31 = .ok (.getfield 15, 3) := by decide +kernel
theorem dX7_add_34 : decode cX7_add 34 = .ok (.iconst 1, 1) := by decide +kernel
theorem dX7_add_35 : decode cX7_add 35 = .ok (.iadd, 1) := by decide +kernel
theorem dX7_add_36 : decode cX7_add 36 = .ok (.putfield 15, 3) := by decide +kernel
theorem dX7_add_39 : decode cX7_add 39 = .ok (.return_, 1) := by decide +kernel
theorem dX7_at_0 : decode cX7_at 0 = .ok (.iload_n 1, 1) := by decide +kernel
theorem dX7_at_1 : decode cX7_at 1 = .ok (.ifCond .lt 29, 3) := by decide +kernel
theorem dX7_at_4 : decode cX7_at 4 = .ok (.iload_n 1, 1) := by decide +kernel
theorem dX7_at_5 : decode cX7_at 5 = .ok (.aload_n 0, 1) := by decide +kernel
theorem dX7_at_6 : decode cX7_at 6 = .ok (.getfield 15, 3) := by decide +kernel
theorem dX7_at_9 : decode cX7_at 9 = .ok (.if_icmp .ge 21, 3) := by decide +kernel
theorem dX7_at_12 : decode cX7_at 12 = .ok (.iload_n 1, 1) := by decide +kernel
theorem dX7_at_13 : decode cX7_at 13 = .ok (.aload_n 0, 1) := by decide +kernel
theorem dX7_at_14 : decode cX7_at 14 = .ok (.getfield 9, 3) := by decide +kernel
theorem dX7_at_17 : decode cX7_at 17 = .ok (.arraylength, 1) := by decide +kernel
theorem dX7_at_18 : decode cX7_at 18 = .ok (.if_icmp .ge 12, 3) := by decide +kernel
theorem dX7_at_21 : decode cX7_at 21 = .ok (.aload_n 0, 1) := by decide +kernel
theorem dX7_at_22 : decode cX7_at 22 = .ok (.getfield 9, 3) := by decide +kernel
theorem dX7_at_25 : decode cX7_at 25 = .ok (.iload_n 1, 1) := by decide +kernel
theorem dX7_at_26 : decode cX7_at 26 = .ok (.iaload, 1) := by decide +kernel
theorem dX7_at_27 : decode cX7_at 27 = .ok (.goto 4, 3) := by decide +kernel
theorem dX7_at_30 : decode cX7_at 30 = .ok (.iconst (-1), 1) := by decide +kernel
end
section
theorem dX7_at_31 : decode cX7_at 31 = .ok (.ireturn, 1) := by decide +kernel
theorem dX7_empty_0 : decode cX7_empty 0 = .ok (.aload_n 0, 1) := by decide +kernel
theorem dX7_empty_1 : decode cX7_empty 1 = .ok (.iconst 0, 1) := by decide +kernel
theorem dX7_empty_2 : decode cX7_empty 2 = .ok (.putfield 15, 3) := by decide +kernel
theorem dX7_empty_5 : decode cX7_empty 5 = .ok (.return_, 1) := by decide +kernel
theorem dX8_init_0 : decode cX8_init 0 = .ok (.aload_n 0, 1) := by decide +kernel
theorem dX8_init_1 : decode cX8_init 1 = .ok (.invokespecial 3, 3) := by decide +kernel
theorem dX8_init_4 : decode cX8_init 4 = .ok (.aload_n 0, 1) := by decide +kernel
theorem dX8_init_5 : decode cX8_init 5 = .ok (.iload_n 1, 1) := by decide +kernel
theorem dX8_init_6 : decode cX8_init 6 = .ok (.putfield 9, 3) := by decide +kernel
theorem dX8_init_9 : decode cX8_init 9 = .ok (.return_, 1) := by decide +kernel
set_option maxRecDepth 20000 in
theorem ggX8_renew_X8_becomeFree : GoodIn wsX8_renew wsX8_becomeFree := goodIn_r _ [8, 9, 10, 11, 12, 13, 14, 15, 16, 17, 18, 19, 20] (by decide +kernel) (by decide +kernel)
set_option maxRecDepth 20000 in
theorem gX8_renew_X8_becomeFree : GoodIn wsX8_renew (wsV RX8 15 RX8 yX8_becomeFree wsX8_becomeFree) := goodIn_app (goodIn_of _ (by decide +kernel)) ggX8_renew_X8_becomeFree
theorem dX8_renew_0 : decode cX8_renew 0 = .ok (.aload_n 0, 1) := by decide +kernel
theorem dX8_renew_1 : decode cX8_renew 1 = .ok (.invokevirtual 15, 3) := by decide +kernel
theorem dX8_renew_4 : decode cX8_renew 4 = .ok (.aload_n 0, 1) := by decide +kernel
theorem dX8_renew_5 : decode cX8_renew 5 = .ok (.iconst 0, 1) := by decide +kernel
theorem dX8_renew_6 : decode cX8_renew 6 = .ok (.putfield 18, 3) := by decide +kernel
theorem dX8_renew_9 : decode cX8_renew 9 = .ok (.aload_n 0, 1) := by decide +kernel
theorem dX8_renew_10 : decode cX8_renew 10 = .ok (.iconst 0, 1) := by decide +kernel
theorem dX8_renew_11 : decode cX8_renew 11 = .ok (.putfield 21, 3) := by decide +kernel
theorem dX8_renew_14 : decode cX8_renew 14 = .ok (.aload_n 0, 1) := by decide +kernel
theorem dX8_renew_15 : decode cX8_renew 15 = .ok (.iconst 0, 1) := by decide +kernel
theorem dX8_renew_16 : decode cX8_renew 16 = .ok (.putfield 24, 3) := by decide +kernel
theorem dX8_renew_19 : decode cX8_renew 19 = .ok (.return_, 1) := by decide +kernel
theorem dX8_becomeFree_0 : decode cX8_becomeFree 0 = .ok (.aload_n 0, 1) := by decide +kernel
theorem dX8_becomeFree_1 : decode cX8_becomeFree 1 = .ok (.iconst 0, 1) := by decide +kernel
theorem dX8_becomeFree_2 : decode cX8_becomeFree 2 = .ok (.putfield 28, 3) := by decide +kernel
theorem dX8_becomeFree_5 : decode cX8_becomeFree 5 = .ok (.aload_n 0, 1) := by decide +kernel
theorem dX8_becomeFree_6 : decode cX8_becomeFree 6 = .ok (.iconst (-1), 1) := by decide +kernel
theorem dX8_becomeFree_7 : decode cX8_becomeFree 7 = .ok (.putfield 31, 3) := by decide +kernel
theorem dX8_becomeFree_10 : decode cX8_becomeFree 10 = .ok (.aload_n 0, 1) := by decide +kernel
theorem dX8_becomeFree_11 : decode cX8_becomeFree 11 = .ok (.iconst (-1), 1) := by decide +kernel
theorem dX8_becomeFree_12 : decode cX8_becomeFree 12 = .ok (.putfield 34, 3) := by decide +kernel
theorem dX8_becomeFree_15 : decode cX8_becomeFree 15 = .ok (.aload_n 0, 1) := by decide +kernel
theorem dX8_becomeFree_16 : decode cX8_becomeFree 16 = .ok (.iconst 0, 1) := by decide +kernel
theorem dX8_becomeFree_17 : decode cX8_becomeFree 17 = .ok (.putfield 37, 3) := by decide +kernel
theorem dX8_becomeFree_20 : decode cX8_becomeFree 20 = .ok (.return_, 1) := by decide +kernel
theorem dX8_choose_0 : decode cX8_choose 0 = .ok (.aload_n 0, 1) := by decide +kernel
theorem dX8_choose_1 : decode cX8_choose 1 = .ok (.iload_n 1, 1) := by decide +kernel
theorem dX8_choose_2 : decode cX8_choose 2 = .ok (.putfield 31, 3) := by decide +kernel
theorem dX8_choose_5 : decode cX8_choose 5 = .ok (.aload_n 0, 1) := by decide +kernel
theorem dX8_choose_6 : decode cX8_choose 6 = .ok (.iload_n 2, 1) := by decide +kernel
theorem dX8_choose_7 : decode cX8_choose 7 = .ok (.putfield 37, 3) := by decide +kernel
theorem dX8_choose_10 : decode cX8_choose 10 = .ok (.return_, 1) := by decide +kernel
theorem dX8_waitInLine_0 : decode cX8_waitInLine 0 = .ok (.aload_n 0, 1) := by decide +kernel
theorem dX8_waitInLine_1 : decode cX8_waitInLine 1 = .ok (.iconst 1, 1) := by decide +kernel
theorem dX8_waitInLine_2 : decode cX8_waitInLine 2 = .ok (.putfield 28, 3) := by decide +kernel
theorem dX8_waitInLine_5 : decode cX8_waitInLine 5 = .ok (.return_, 1) := by decide +kernel
theorem dX8_startWork_0 : decode cX8_startWork 0 = .ok (.aload_n 0, 1) := by decide +kernel
theorem dX8_startWork_1 : decode cX8_startWork 1 = .ok (.iconst 2, 1) := by decide +kernel
theorem dX8_startWork_2 : decode cX8_startWork 2 = .ok (.putfield 28, 3) := by decide +kernel
theorem dX8_startWork_5 : decode cX8_startWork 5 = .ok (.aload_n 0, 1) := by decide +kernel
theorem dX8_startWork_6 : decode cX8_startWork 6 = .ok (.iconst 0, 1) := by decide +kernel
theorem dX8_startWork_7 : decode cX8_startWork 7 = .ok (.putfield 34, 3) := by decide +kernel
theorem dX8_startWork_10 : decode cX8_startWork 10 = .ok (.return_, 1) := by decide +kernel
theorem dX8_holdPack_0 : decode cX8_holdPack 0 = .ok (.aload_n 0, 1) := by decide +kernel
theorem dX8_holdPack_1 : decode cX8_holdPack 1 = .ok (.iconst 3, 1) := by decide +kernel
theorem dX8_holdPack_2 : decode cX8_holdPack 2 = .ok (.putfield 28, 3) := by decide +kernel
theorem dX8_holdPack_5 : decode cX8_holdPack 5 = .ok (.aload_n 0, 1) := by decide +kernel
theorem dX8_holdPack_6 : decode cX8_holdPack 6 = .ok (.iconst (-1), 1) := by decide +kernel
theorem dX8_holdPack_7 : decode cX8_holdPack 7 = .ok (.putfield 34, 3) := by decide +kernel
theorem dX8_holdPack_10 : decode cX8_holdPack 10 = .ok (.aload_n 0, 1) := by decide +kernel
theorem dX8_holdPack_11 : decode cX8_holdPack 11 = .ok (.dup, 1) := by decide +kernel
theorem dX8_holdPack_12 : decode cX8_holdPack 12 = .ok (.getfield 18, 3) := by decide +kernel
theorem dX8_holdPack_15 : decode cX8_holdPack 15 = .ok (.iconst 1, 1) := by decide +kernel
theorem dX8_holdPack_16 : decode cX8_holdPack 16 = .ok (.iadd, 1) := by decide +kernel
theorem dX8_holdPack_17 : decode cX8_holdPack 17 = .ok (.putfield 18, 3) := by decide +kernel
theorem dX8_holdPack_20 : decode cX8_holdPack 20 = .ok (.return_, 1) := by decide +kernel
set_option maxRecDepth 20000 in
theorem ggX8_end_X8_becomeFree : GoodIn wsX8_end wsX8_becomeFree := goodIn_r _ [7, 1, 8, 9, 10, 11, 12, 13, 14, 15, 16, 17, 18] (by decide +kernel) (by decide +kernel)
set_option maxRecDepth 20000 in
theorem gX8_end_X8_becomeFree : GoodIn wsX8_end (wsV RX8 15 RX8 yX8_becomeFree wsX8_becomeFree) := goodIn_app (goodIn_of _ (by decide +kernel)) ggX8_end_X8_becomeFree
theorem dX8_end_0 : decode cX8_end 0 = .ok (.aload_n 0, 1) := by decide +kernel
theorem dX8_end_1 : decode cX8_end 1 = .ok (.invokevirtual 15, 3) := by decide +kernel
theorem dX8_end_4 : decode cX8_end 4 = .ok (.aload_n 0, 1) := by decide +kernel
theorem dX8_end_5 : decode cX8_end 5 = .ok (.iconst 4, 1) := by decide +kernel
theorem dX8_end_6 : decode cX8_end 6 = .ok (.putfield 28, 3) := by decide +kernel
theorem dX8_end_9 : decode cX8_end 9 = .ok (.aload_n 0, 1) := by decide +kernel
theorem dX8_end_10 : decode cX8_end 10 = .ok (.dup, 1) := by decide +kernel
theorem dX8_end_11 : decode cX8_end 11 = .ok (.getfield 21, 3) := by decide +kernel
theorem dX8_end_14 : decode cX8_end 14 = .ok (.iconst 1, 1) := by decide +kernel
theorem dX8_end_15 : decode cX8_end 15 = .ok (.iadd, 1) := by decide +kernel
theorem dX8_end_16 : decode cX8_end 16 = .ok (.putfield 21, 3) := by decide +kernel
theorem dX8_end_19 : decode cX8_end 19 = .ok (.return_, 1) := by decide +kernel
set_option maxRecDepth 20000 in
theorem ggX9_init_X7_init : GoodIn wsX9_init wsX7_init := goodIn_r _ [26, 27, 2, 3, 28, 29, 94, 95] (by decide +kernel) (by decide +kernel)
set_option maxRecDepth 20000 in
theorem gX9_init_X7_init_n11 : GoodIn wsX9_init (wsX7_init) := ggX9_init_X7_init
set_option maxRecDepth 20000 in
theorem ggX9_init_X5_init : GoodIn wsX9_init wsX5_init := goodIn_r _ [31, 32, 2, 3, 33, 34, 35, 36, 102, 103, 104, 105] (by decide +kernel) (by decide +kernel)
set_option maxRecDepth 20000 in
theorem gX9_init_X5_init_n18 : GoodIn wsX9_init (wsX5_init) := ggX9_init_X5_init
set_option maxRecDepth 20000 in
theorem ggX9_init_X3_init : GoodIn wsX9_init wsX3_init := goodIn_r _ [38, 39, 2, 3, 28, 40, 41, 42, 43, 106, 107, 108] (by decide +kernel) (by decide +kernel)
set_option maxRecDepth 20000 in
theorem gX9_init_X3_init_n25 : GoodIn wsX9_init (wsX3_init) := ggX9_init_X3_init
set_option maxRecDepth 20000 in
theorem ggX9_init_X2_init : GoodIn wsX9_init wsX2_init := goodIn_r _ [46, 47, 2, 3, 28, 48, 49, 50, 51, 52, 109, 110, 111, 112, 113, 114, 115, 116, 117] (by decide +kernel) (by decide +kernel)
set_option maxRecDepth 20000 in
theorem gX9_init_X2_init : GoodIn wsX9_init (wsX2_init) := ggX9_init_X2_init
set_option maxRecDepth 20000 in
theorem ggX9_init_X6_init : GoodIn wsX9_init wsX6_init := goodIn_r _ [55, 56, 2, 3, 57, 58, 59, 60, 61, 62, 63, 64, 65, 66, 67, 68, 69, 70, 71, 72, 73, 74, 75, 76, 77, 78, 79, 80, 81, 82, 42, 83, 84, 85, 86, 87, 28, 88, 89, 90, 91, 92, 93, 118, 119, 120, 121, 122, 123, 124, 125, 126, 127, 128, 129, 130, 131, 132, 133, 134, 135, 136, 137, 138, 139, 140, 141, 142, 143, 144, 145, 146, 147, 148] (by decide +kernel) (by decide +kernel)
set_option maxRecDepth 20000 in
theorem gX9_init_X6_init : GoodIn wsX9_init (wsX6_init) := ggX9_init_X6_init
theorem dX9_init_0 : decode cX9_init 0 = .ok (.aload_n 0, 1) := by decide +kernel
theorem dX9_init_1 : decode cX9_init 1 = .ok (.invokespecial 3, 3) := by decide +kernel
theorem dX9_init_4 : decode cX9_init 4 = .ok (.aload_n 0, 1) := by decide +kernel
theorem dX9_init_5 : decode cX9_init 5 = .ok (.new 9, 3) := by decide +kernel
theorem dX9_init_8 : decode cX9_init 8 = .ok (.dup, 1) := by decide +kernel
theorem dX9_init_9 : decode cX9_init 9 = .ok (.invokespecial 11, 3) := by decide +kernel
theorem dX9_init_12 : decode cX9_init 12 = .ok (.putfield 12, 3) := by decide +kernel
theorem dX9_init_15 : decode cX9_init 15 = .ok (.aload_n 0, 1) := by decide +kernel
theorem dX9_init_16 : decode cX9_init 16 = .ok (.new 16, 3) := by decide +kernel
theorem dX9_init_19 : decode cX9_init 19 = .ok (.dup, 1) := by decide +kernel
theorem dX9_init_20 : decode cX9_init 20 = .ok (.invokespecial 18, 3) := by decide +kernel
theorem dX9_init_23 : decode cX9_init 23 = .ok (.putfield 19, 3) := by decide +kernel
theorem dX9_init_26 : decode cX9_init 26 = .ok (.aload_n 0, 1) := by decide +kernel
theorem dX9_init_27 : decode cX9_init 27 = .ok (.new 23, 3) := by decide +kernel
theorem dX9_init_30 : decode cX9_init 30 = .ok (.dup, 1) := by decide +kernel
theorem dX9_init_31 : decode cX9_init 31 = .ok (.invokespecial 25, 3) := by decide +kernel
theorem dX9_init_34 : decode cX9_init 34 = .ok (.putfield 26, 3) := by decide +kernel
theorem dX9_init_37 : decode cX9_init 37 = .ok (.aload_n 0, 1) := by decide +kernel
theorem dX9_init_38 : decode cX9_init 38 = .ok (.new 30, 3) := by decide +kernel
theorem dX9_init_41 : decode cX9_init 41 = .ok (.dup, 1) := by decide +kernel
theorem dX9_init_42 : decode cX9_init 42 = .ok (.aload_n 0, 1) := by decide +kernel
theorem dX9_init_43 : decode cX9_init 43 = .ok (.getfield 12, 3) := by decide +kernel
theorem dX9_init_46 : decode cX9_init 46 = .ok (.aload_n 0, 1) := by decide +kernel
theorem dX9_init_47 : decode cX9_init 47 = .ok (.getfield 19, 3) := by decide +kernel
theorem dX9_init_50 : decode cX9_init 50 = .ok (.invokespecial 32, 3) := by decide +kernel
theorem dX9_init_53 : decode cX9_init 53 = .ok (.putfield 35, 3) := by decide +kernel
theorem dX9_init_56 : decode cX9_init 56 = .ok (.aload_n 0, 1) := by decide +kernel
theorem dX9_init_57 : decode cX9_init 57 = .ok (.new 39, 3) := by decide +kernel
theorem dX9_init_60 : decode cX9_init 60 = .ok (.dup, 1) := by decide +kernel
theorem dX9_init_61 : decode cX9_init 61 = .ok (.aload_n 0, 1) := by decide +kernel
theorem dX9_init_62 : decode cX9_init 62 = .ok (.getfield 35, 3) := by decide +kernel
theorem dX9_init_65 : decode cX9_init 65 = .ok (.aload_n 0, 1) := by decide +kernel
theorem dX9_init_66 : decode cX9_init 66 = .ok (.getfield 26, 3) := by decide +kernel
theorem dX9_init_69 : decode cX9_init 69 = .ok (.invokespecial 41, 3) := by decide +kernel
theorem dX9_init_72 : decode cX9_init 72 = .ok (.putfield 44, 3) := by decide +kernel
theorem dX9_init_75 : decode cX9_init 75 = .ok (.aload_n 0, 1) := by decide +kernel
theorem dX9_init_76 : decode cX9_init 76 = .ok (.iconst 0, 1) := by decide +kernel
theorem dX9_init_77 : decode cX9_init 77 = .ok (.putfield 48, 3) := by decide +kernel
theorem dX9_init_80 : decode cX9_init 80 = .ok (.return_, 1) := by decide +kernel
set_option maxRecDepth 20000 in
theorem ggX9_type_X7_isFull : GoodIn wsX9_type wsX7_isFull := goodIn_r _ [8, 9, 10, 31, 32] (by decide +kernel) (by decide +kernel)
set_option maxRecDepth 20000 in
theorem gX9_type_X7_isFull : GoodIn wsX9_type (wsV RX9 52 RX7 yX7_isFull wsX7_isFull) := goodIn_app (goodIn_of _ (by decide +kernel)) ggX9_type_X7_isFull
set_option maxRecDepth 20000 in
theorem ggX9_type_X7_add : GoodIn wsX9_type wsX7_add := goodIn_r _ [14, 9, 10, 31, 32] (by decide +kernel) (by decide +kernel)
set_option maxRecDepth 20000 in
theorem gX9_type_X7_add : GoodIn wsX9_type (wsV RX9 56 RX7 yX7_add wsX7_add) := goodIn_app (goodIn_of _ (by decide +kernel)) ggX9_type_X7_add
set_option maxRecDepth 20000 in
theorem ggX9_type_X2_forget : GoodIn wsX9_type wsX2_forget := goodIn_r _ [19, 20, 33, 34, 35, 36, 37, 38, 39, 40, 41] (by decide +kernel) (by decide +kernel)
set_option maxRecDepth 20000 in
theorem gX9_type_X2_forget : GoodIn wsX9_type (wsV RX9 60 RX2 yX2_forget wsX2_forget) := goodIn_app (goodIn_of _ (by decide +kernel)) ggX9_type_X2_forget
set_option maxRecDepth 20000 in
theorem ggX9_type_X7_length : GoodIn wsX9_type wsX7_length := goodIn_r _ [24, 9, 31, 32] (by decide +kernel) (by decide +kernel)
set_option maxRecDepth 20000 in
theorem gX9_type_X7_length : GoodIn wsX9_type (wsV RX9 63 RX7 yX7_length wsX7_length) := goodIn_app (goodIn_of _ (by decide +kernel)) ggX9_type_X7_length
theorem dX9_type_0 : decode cX9_type 0 = .ok (.iload_n 1, 1) := by decide +kernel
theorem dX9_type_1 : decode cX9_type 1 = .ok (.ifCond .lt 10, 3) := by decide +kernel
theorem dX9_type_4 : decode cX9_type 4 = .ok (.iload_n 1, 1) := by decide +kernel
theorem dX9_type_5 : decode cX9_type 5 = .ok (.sipush 255, 3) := by decide +kernel
theorem dX9_type_8 : decode cX9_type 8 = .ok (.if_icmp .le 6, 3) := by decide +kernel
theorem dX9_type_11 : decode cX9_type 11 = .ok (.bipush (-2), 2) := by decide +kernel
theorem dX9_type_13 : decode cX9_type 13 = .ok (.ireturn, 1) := by decide +kernel
theorem dX9_type_14 : decode cX9_type 14 = .ok (.aload_n 0, 1) := by decide +kernel
theorem dX9_type_15 : decode cX9_type 15 = .ok (.getfield 48, 3) := by decide +kernel
theorem dX9_type_18 : decode cX9_type 18 = .ok (.ifCond .eq 6, 3) := by decide +kernel
theorem dX9_type_21 : decode cX9_type 21 = .ok (.bipush (-3), 2) := by decide +kernel
theorem dX9_type_23 : decode cX9_type 23 = .ok (.ireturn, 1) := by decide +kernel
theorem dX9_type_24 : decode cX9_type 24 = .ok (.aload_n 0, 1) := by decide +kernel
theorem dX9_type_25 : decode cX9_type 25 = .ok (.getfield 12, 3) := by decide +kernel
theorem dX9_type_28 : decode cX9_type 28 = .ok (.invokevirtual 52, 3) := by decide +kernel
theorem dX9_type_31 : decode cX9_type 31 = .ok (.ifCond .eq 6, 3) := by decide +kernel
theorem dX9_type_34 : decode cX9_type 34 = .ok (.bipush (-4), 2) := by decide +kernel
theorem dX9_type_36 : decode cX9_type 36 = .ok (.ireturn, 1) := by decide +kernel
theorem dX9_type_37 : decode cX9_type 37 = .ok (.aload_n 0, 1) := by decide +kernel
theorem dX9_type_38 : decode cX9_type 38 = .ok (.getfield 12, 3) := by decide +kernel
theorem dX9_type_41 : decode cX9_type 41 = .ok (.iload_n 1, 1) := by decide +kernel
theorem dX9_type_42 : decode cX9_type 42 = .ok (.invokevirtual 56, 3) := by decide +kernel
theorem dX9_type_45 : decode cX9_type 45 = .ok (.aload_n 0, 1) := by decide +kernel
theorem dX9_type_46 : decode cX9_type 46 = .ok (.getfield 35, 3) := by decide +kernel
theorem dX9_type_49 : decode cX9_type 49 = .ok (.invokevirtual 60, 3) := by decide +kernel
theorem dX9_type_52 : decode cX9_type 52 = .ok (.aload_n 0, 1) := by decide +kernel
theorem dX9_type_53 : decode cX9_type 53 = .ok (.getfield 12, 3) := by decide +kernel
theorem dX9_type_56 : decode cX9_type 56 = .ok (.invokevirtual 63, 3) := by decide +kernel
theorem dX9_type_59 : decode cX9_type 59 = .ok (.ireturn, 1) := by decide +kernel
set_option maxRecDepth 20000 in
theorem ggX9_set_X5_allows : GoodIn wsX9_set wsX5_allows := goodIn_r _ [8, 9, 10] (by decide +kernel) (by decide +kernel)
set_option maxRecDepth 20000 in
theorem gX9_set_X5_allows : GoodIn wsX9_set (wsV RX9 67 RX5 yX5_allows wsX5_allows) := goodIn_app (goodIn_of _ (by decide +kernel)) ggX9_set_X5_allows
set_option maxRecDepth 20000 in
theorem ggX9_set_X2_forget : GoodIn wsX9_set wsX2_forget := goodIn_r _ [15, 16, 31, 32, 33, 34, 35, 36, 37, 38, 39] (by decide +kernel) (by decide +kernel)
set_option maxRecDepth 20000 in
theorem gX9_set_X2_forget : GoodIn wsX9_set (wsV RX9 60 RX2 yX2_forget wsX2_forget) := goodIn_app (goodIn_of _ (by decide +kernel)) ggX9_set_X2_forget
set_option maxRecDepth 20000 in
theorem ggX9_set_X5_replace : GoodIn wsX9_set wsX5_replace := goodIn_r _ [20, 21, 22, 23, 24, 40, 41, 42, 43] (by decide +kernel) (by decide +kernel)
set_option maxRecDepth 20000 in
theorem gX9_set_X5_replace : GoodIn wsX9_set (wsV RX9 71 RX5 yX5_replace wsX5_replace) := goodIn_app (goodIn_of _ (by decide +kernel)) ggX9_set_X5_replace
theorem dX9_set_0 : decode cX9_set 0 = .ok (.aload_n 0, 1) := by decide +kernel
theorem dX9_set_1 : decode cX9_set 1 = .ok (.getfield 19, 3) := by decide +kernel
theorem dX9_set_4 : decode cX9_set 4 = .ok (.iload_n 1, 1) := by decide +kernel
theorem dX9_set_5 : decode cX9_set 5 = .ok (.iload_n 2, 1) := by decide +kernel
theorem dX9_set_6 : decode cX9_set 6 = .ok (.invokevirtual 67, 3) := by decide +kernel
theorem dX9_set_9 : decode cX9_set 9 = .ok (.ifCond .ne 6, 3) := by decide +kernel
theorem dX9_set_12 : decode cX9_set 12 = .ok (.bipush (-2), 2) := by decide +kernel
theorem dX9_set_14 : decode cX9_set 14 = .ok (.ireturn, 1) := by decide +kernel
theorem dX9_set_15 : decode cX9_set 15 = .ok (.aload_n 0, 1) := by decide +kernel
theorem dX9_set_16 : decode cX9_set 16 = .ok (.getfield 48, 3) := by decide +kernel
theorem dX9_set_19 : decode cX9_set 19 = .ok (.ifCond .eq 6, 3) := by decide +kernel
theorem dX9_set_22 : decode cX9_set 22 = .ok (.bipush (-3), 2) := by decide +kernel
theorem dX9_set_24 : decode cX9_set 24 = .ok (.ireturn, 1) := by decide +kernel
theorem dX9_set_25 : decode cX9_set 25 = .ok (.aload_n 0, 1) := by decide +kernel
theorem dX9_set_26 : decode cX9_set 26 = .ok (.getfield 35, 3) := by decide +kernel
theorem dX9_set_29 : decode cX9_set 29 = .ok (.invokevirtual 60, 3) := by decide +kernel
theorem dX9_set_32 : decode cX9_set 32 = .ok (.aload_n 0, 1) := by decide +kernel
theorem dX9_set_33 : decode cX9_set 33 = .ok (.getfield 19, 3) := by decide +kernel
theorem dX9_set_36 : decode cX9_set 36 = .ok (.iload_n 1, 1) := by decide +kernel
theorem dX9_set_37 : decode cX9_set 37 = .ok (.iload_n 2, 1) := by decide +kernel
theorem dX9_set_38 : decode cX9_set 38 = .ok (.invokevirtual 71, 3) := by decide +kernel
theorem dX9_set_41 : decode cX9_set 41 = .ok (.ireturn, 1) := by decide +kernel
set_option maxRecDepth 20000 in
theorem ggX9_plant_X3_put : GoodIn wsX9_plant wsX3_put := goodIn_r _ [7, 8, 9, 10, 17, 18, 19] (by decide +kernel) (by decide +kernel)
set_option maxRecDepth 20000 in
theorem gX9_plant_X3_put : GoodIn wsX9_plant (wsV RX9 75 RX3 yX3_put wsX3_put) := goodIn_app (goodIn_of _ (by decide +kernel)) ggX9_plant_X3_put
theorem dX9_plant_0 : decode cX9_plant 0 = .ok (.iload_n 1, 1) := by decide +kernel
theorem dX9_plant_1 : decode cX9_plant 1 = .ok (.ifCond .lt 30, 3) := by decide +kernel
theorem dX9_plant_4 : decode cX9_plant 4 = .ok (.iload_n 1, 1) := by decide +kernel
theorem dX9_plant_5 : decode cX9_plant 5 = .ok (.bipush 40, 2) := by decide +kernel
theorem dX9_plant_7 : decode cX9_plant 7 = .ok (.if_icmp .ge 24, 3) := by decide +kernel
theorem dX9_plant_10 : decode cX9_plant 10 = .ok (.iload_n 2, 1) := by decide +kernel
theorem dX9_plant_11 : decode cX9_plant 11 = .ok (.ifCond .lt 20, 3) := by decide +kernel
theorem dX9_plant_14 : decode cX9_plant 14 = .ok (.iload_n 2, 1) := by decide +kernel
theorem dX9_plant_15 : decode cX9_plant 15 = .ok (.bipush 32, 2) := by decide +kernel
theorem dX9_plant_17 : decode cX9_plant 17 = .ok (.if_icmp .ge 14, 3) := by decide +kernel
theorem dX9_plant_20 : decode cX9_plant 20 = .ok (.iload_n 3, 1) := by decide +kernel
theorem dX9_plant_21 : decode cX9_plant 21 = .ok (.iconst 1, 1) := by decide +kernel
theorem dX9_plant_22 : decode cX9_plant 22 = .ok (.if_icmp .lt 9, 3) := by decide +kernel
theorem dX9_plant_25 : decode cX9_plant 25 = .ok (.iload_n 3, 1) := by decide +kernel
theorem dX9_plant_26 : decode cX9_plant 26 = .ok (.bipush 6, 2) := by decide +kernel
theorem dX9_plant_28 : decode cX9_plant 28 = .ok (.if_icmp .le 6, 3) := by decide +kernel
theorem dX9_plant_31 : decode cX9_plant 31 = .ok (.bipush (-2), 2) := by decide +kernel
theorem dX9_plant_33 : decode cX9_plant 33 = .ok (.ireturn, 1) := by decide +kernel
theorem dX9_plant_34 : decode cX9_plant 34 = .ok (.aload_n 0, 1) := by decide +kernel
theorem dX9_plant_35 : decode cX9_plant 35 = .ok (.getfield 48, 3) := by decide +kernel
theorem dX9_plant_38 : decode cX9_plant 38 = .ok (.ifCond .eq 6, 3) := by decide +kernel
theorem dX9_plant_41 : decode cX9_plant 41 = .ok (.bipush (-3), 2) := by decide +kernel
theorem dX9_plant_43 : decode cX9_plant 43 = .ok (.ireturn, 1) := by decide +kernel
theorem dX9_plant_44 : decode cX9_plant 44 = .ok (.aload_n 0, 1) := by decide +kernel
theorem dX9_plant_45 : decode cX9_plant 45 = .ok (.getfield 26, 3) := by decide +kernel
theorem dX9_plant_48 : decode cX9_plant 48 = .ok (.iload_n 1, 1) := by decide +kernel
theorem dX9_plant_49 : decode cX9_plant 49 = .ok (.iload_n 2, 1) := by decide +kernel
theorem dX9_plant_50 : decode cX9_plant 50 = .ok (.iload_n 3, 1) := by decide +kernel
theorem dX9_plant_51 : decode cX9_plant 51 = .ok (.iload 4, 2) := by decide +kernel
theorem dX9_plant_53 : decode cX9_plant 53 = .ok (.invokevirtual 75, 3) := by decide +kernel
theorem dX9_plant_56 : decode cX9_plant 56 = .ok (.iconst 1, 1) := by decide +kernel
theorem dX9_plant_57 : decode cX9_plant 57 = .ok (.ireturn, 1) := by decide +kernel
set_option maxRecDepth 20000 in
theorem ggX9_begin_X2_make : GoodIn wsX9_begin wsX2_make := goodIn_r _ [9, 10, 11, 12, 13, 14, 15, 16, 17, 18, 8, 19, 20, 21, 22, 23, 24, 25, 26, 27, 28, 29, 30, 31, 32, 33, 34, 35, 36, 37, 38, 39, 40, 41, 42, 43, 44, 45, 46, 47, 48, 49, 50, 51, 52, 53, 54, 55, 56, 57, 58, 59, 60, 61, 62, 63, 64, 65, 66, 67, 68, 69, 70, 71, 72, 73, 74, 75, 76, 77, 78, 79, 155, 156, 157, 158, 159, 160, 161, 162, 163, 164, 165, 166, 167, 168, 169] (by decide +kernel) (by decide +kernel)
set_option maxRecDepth 20000 in
theorem gX9_begin_X2_make : GoodIn wsX9_begin (wsV RX9 79 RX2 yX2_make wsX2_make) := goodIn_app (goodIn_of _ (by decide +kernel)) ggX9_begin_X2_make
set_option maxRecDepth 20000 in
theorem ggX9_begin_X5_cells : GoodIn wsX9_begin wsX5_cells := goodIn_r _ [83, 84, 164, 165, 166, 167] (by decide +kernel) (by decide +kernel)
set_option maxRecDepth 20000 in
theorem gX9_begin_X5_cells : GoodIn wsX9_begin (wsV RX9 82 RX5 yX5_cells wsX5_cells) := goodIn_app (goodIn_of _ (by decide +kernel)) ggX9_begin_X5_cells
set_option maxRecDepth 20000 in
theorem ggX9_begin_X5_rowLimit : GoodIn wsX9_begin wsX5_rowLimit := goodIn_r _ [88, 89, 164, 165, 166, 167] (by decide +kernel) (by decide +kernel)
set_option maxRecDepth 20000 in
theorem gX9_begin_X5_rowLimit : GoodIn wsX9_begin (wsV RX9 85 RX5 yX5_rowLimit wsX5_rowLimit) := goodIn_app (goodIn_of _ (by decide +kernel)) ggX9_begin_X5_rowLimit
set_option maxRecDepth 20000 in
theorem ggX9_begin_X6_start : GoodIn wsX9_begin wsX6_start := goodIn_r _ [94, 95, 96, 97, 98, 99, 100, 101, 102, 103, 104, 105, 106, 107, 108, 109, 110, 111, 112, 113, 114, 115, 116, 117, 118, 119, 120, 121, 122, 123, 124, 125, 126, 127, 128, 129, 130, 131, 132, 133, 134, 135, 136, 137, 138, 139, 140, 141, 142, 143, 144, 170, 171, 172, 173, 174, 175, 176, 177, 178, 179, 180, 181, 182, 183, 184, 185, 186, 187, 188, 189, 190, 191, 192, 193, 194, 195, 196, 197, 198, 199, 200] (by decide +kernel) (by decide +kernel)
set_option maxRecDepth 20000 in
theorem gX9_begin_X6_start : GoodIn wsX9_begin (wsV RX9 88 RX6 yX6_start wsX6_start) := goodIn_app (goodIn_of _ (by decide +kernel)) ggX9_begin_X6_start
set_option maxRecDepth 20000 in
theorem ggX9_begin_X2_blocks : GoodIn wsX9_begin wsX2_blocks := goodIn_r _ [148, 12, 155, 156, 157, 158, 159, 160, 161, 162, 163] (by decide +kernel) (by decide +kernel)
set_option maxRecDepth 20000 in
theorem gX9_begin_X2_blocks : GoodIn wsX9_begin (wsV RX9 92 RX2 yX2_blocks wsX2_blocks) := goodIn_app (goodIn_of _ (by decide +kernel)) ggX9_begin_X2_blocks
theorem dX9_begin_0 : decode cX9_begin 0 = .ok (.iload_n 1, 1) := by decide +kernel
theorem dX9_begin_1 : decode cX9_begin 1 = .ok (.iconst 1, 1) := by decide +kernel
theorem dX9_begin_2 : decode cX9_begin 2 = .ok (.if_icmp .lt 9, 3) := by decide +kernel
theorem dX9_begin_5 : decode cX9_begin 5 = .ok (.iload_n 1, 1) := by decide +kernel
theorem dX9_begin_6 : decode cX9_begin 6 = .ok (.bipush 6, 2) := by decide +kernel
theorem dX9_begin_8 : decode cX9_begin 8 = .ok (.if_icmp .le 6, 3) := by decide +kernel
theorem dX9_begin_11 : decode cX9_begin 11 = .ok (.bipush (-2), 2) := by decide +kernel
theorem dX9_begin_13 : decode cX9_begin 13 = .ok (.ireturn, 1) := by decide +kernel
theorem dX9_begin_14 : decode cX9_begin 14 = .ok (.aload_n 0, 1) := by decide +kernel
theorem dX9_begin_15 : decode cX9_begin 15 = .ok (.getfield 48, 3) := by decide +kernel
theorem dX9_begin_18 : decode cX9_begin 18 = .ok (.ifCond .eq 6, 3) := by decide +kernel
theorem dX9_begin_21 : decode cX9_begin 21 = .ok (.bipush (-3), 2) := by decide +kernel
theorem dX9_begin_23 : decode cX9_begin 23 = .ok (.ireturn, 1) := by decide +kernel
theorem dX9_begin_24 : decode cX9_begin 24 = .ok (.aload_n 0, 1) := by decide +kernel
theorem dX9_begin_25 : decode cX9_begin 25 = .ok (.getfield 35, 3) := by decide +kernel
theorem dX9_begin_28 : decode cX9_begin 28 = .ok (.invokevirtual 79, 3) := by decide +kernel
theorem dX9_begin_31 : decode cX9_begin 31 = .ok (.aload_n 0, 1) := by decide +kernel
theorem dX9_begin_32 : decode cX9_begin 32 = .ok (.getfield 44, 3) := by decide +kernel
theorem dX9_begin_35 : decode cX9_begin 35 = .ok (.iload_n 1, 1) := by decide +kernel
theorem dX9_begin_36 : decode cX9_begin 36 = .ok (.aload_n 0, 1) := by decide +kernel
theorem dX9_begin_37 : decode cX9_begin 37 = .ok (.getfield 19, 3) := by decide +kernel
theorem dX9_begin_40 : decode cX9_begin 40 = .ok (.invokevirtual 82, 3) := by decide +kernel
theorem dX9_begin_43 : decode cX9_begin 43 = .ok (.aload_n 0, 1) := by decide +kernel
theorem dX9_begin_44 : decode cX9_begin 44 = .ok (.getfield 19, 3) := by decide +kernel
theorem dX9_begin_47 : decode cX9_begin 47 = .ok (.invokevirtual 85, 3) := by decide +kernel
theorem dX9_begin_50 : decode cX9_begin 50 = .ok (.invokevirtual 88, 3) := by decide +kernel
theorem dX9_begin_53 : decode cX9_begin 53 = .ok (.aload_n 0, 1) := by decide +kernel
theorem dX9_begin_54 : decode cX9_begin 54 = .ok (.iconst 1, 1) := by decide +kernel
theorem dX9_begin_55 : decode cX9_begin 55 = .ok (.putfield 48, 3) := by decide +kernel
theorem dX9_begin_58 : decode cX9_begin 58 = .ok (.aload_n 0, 1) := by decide +kernel
theorem dX9_begin_59 : decode cX9_begin 59 = .ok (.getfield 35, 3) := by decide +kernel
theorem dX9_begin_62 : decode cX9_begin 62 = .ok (.invokevirtual 92, 3) := by decide +kernel
theorem dX9_begin_65 : decode cX9_begin 65 = .ok (.ireturn, 1) := by decide +kernel
set_option maxRecDepth 20000 in
theorem ggX9_turn_X9_isThread : GoodIn wsX9_turn wsX9_isThread := goodIn_r _ [7, 1, 2, 8, 9, 10, 11, 12, 13, 187, 188, 189, 190, 191, 192, 193, 194, 195, 196, 197, 198, 199, 200, 201, 202, 203, 204, 205] (by decide +kernel) (by decide +kernel)
set_option maxRecDepth 20000 in
theorem gX9_turn_X9_isThread : GoodIn wsX9_turn (wsV RX9 95 RX9 yX9_isThread wsX9_isThread) := goodIn_app (goodIn_of _ (by decide +kernel)) ggX9_turn_X9_isThread
set_option maxRecDepth 20000 in
theorem ggX9_turn_X6_giveTurn : GoodIn wsX9_turn wsX6_giveTurn := goodIn_r _ [17, 18, 19, 20, 21, 22, 11, 23, 13, 24, 25, 26, 27, 28, 29, 30, 31, 32, 33, 34, 35, 36, 37, 38, 39, 40, 41, 42, 43, 44, 45, 46, 47, 48, 49, 50, 51, 52, 53, 54, 55, 56, 57, 58, 59, 60, 61, 62, 63, 64, 65, 66, 67, 68, 69, 70, 71, 72, 73, 74, 75, 76, 77, 78, 79, 80, 81, 82, 83, 84, 85, 86, 87, 88, 89, 90, 91, 92, 93, 94, 95, 96, 97, 98, 99, 100, 101, 102, 103, 104, 105, 106, 107, 108, 109, 110, 111, 112, 113, 114, 115, 116, 117, 118, 119, 120, 121, 122, 123, 124, 125, 126, 127, 128, 129, 130, 131, 132, 133, 134, 135, 136, 137, 138, 139, 140, 141, 142, 143, 144, 145, 146, 147, 148, 149, 150, 151, 152, 153, 154, 155, 156, 157, 158, 159, 160, 161, 162, 163, 164, 165, 166, 167, 168, 169, 170, 171, 172, 173, 174, 175, 176, 177, 178, 179, 180, 181, 182, 183, 184, 185, 186, 193, 194, 195, 196, 197, 198, 199, 200, 201, 202, 203, 204, 205, 206, 207, 208, 209, 210, 211, 212, 213, 214, 215, 216, 217, 218, 219, 220, 221, 222, 223, 224, 225, 226, 227, 228, 229, 230, 231, 232, 233, 234, 235, 236, 237, 238, 239, 240, 241] (by decide +kernel) (by decide +kernel)
set_option maxRecDepth 20000 in
theorem gX9_turn_X6_giveTurn : GoodIn wsX9_turn (wsV RX9 99 RX6 yX6_giveTurn wsX6_giveTurn) := goodIn_app (goodIn_of _ (by decide +kernel)) ggX9_turn_X6_giveTurn
theorem dX9_turn_0 : decode cX9_turn 0 = .ok (.aload_n 0, 1) := by decide +kernel
theorem dX9_turn_1 : decode cX9_turn 1 = .ok (.iload_n 1, 1) := by decide +kernel
theorem dX9_turn_2 : decode cX9_turn 2 = .ok (.invokevirtual 95, 3) := by decide +kernel
theorem dX9_turn_5 : decode cX9_turn 5 = .ok (.ifCond .ne 6, 3) := by decide +kernel
theorem dX9_turn_8 : decode cX9_turn 8 = .ok (.bipush (-2), 2) := by decide +kernel
theorem dX9_turn_10 : decode cX9_turn 10 = .ok (.ireturn, 1) := by decide +kernel
theorem dX9_turn_11 : decode cX9_turn 11 = .ok (.aload_n 0, 1) := by decide +kernel
theorem dX9_turn_12 : decode cX9_turn 12 = .ok (.getfield 48, 3) := by decide +kernel
theorem dX9_turn_15 : decode cX9_turn 15 = .ok (.ifCond .ne 6, 3) := by decide +kernel
theorem dX9_turn_18 : decode cX9_turn 18 = .ok (.bipush (-3), 2) := by decide +kernel
theorem dX9_turn_20 : decode cX9_turn 20 = .ok (.ireturn, 1) := by decide +kernel
theorem dX9_turn_21 : decode cX9_turn 21 = .ok (.aload_n 0, 1) := by decide +kernel
theorem dX9_turn_22 : decode cX9_turn 22 = .ok (.getfield 44, 3) := by decide +kernel
theorem dX9_turn_25 : decode cX9_turn 25 = .ok (.iload_n 1, 1) := by decide +kernel
theorem dX9_turn_26 : decode cX9_turn 26 = .ok (.invokevirtual 99, 3) := by decide +kernel
theorem dX9_turn_29 : decode cX9_turn 29 = .ok (.ifCond .eq 7, 3) := by decide +kernel
theorem dX9_turn_32 : decode cX9_turn 32 = .ok (.iconst 1, 1) := by decide +kernel
theorem dX9_turn_33 : decode cX9_turn 33 = .ok (.goto 4, 3) := by decide +kernel
theorem dX9_turn_36 : decode cX9_turn 36 = .ok (.iconst 0, 1) := by decide +kernel
theorem dX9_turn_37 : decode cX9_turn 37 = .ok (.ireturn, 1) := by decide +kernel
set_option maxRecDepth 20000 in
theorem ggX9_run_X6_giveTurnsInRing : GoodIn wsX9_run wsX6_giveTurnsInRing := goodIn_r _ [7, 8, 9, 10, 11, 12, 6, 13, 14, 15, 16, 17, 18, 19, 20, 21, 22, 23, 24, 25, 26, 27, 28, 29, 30, 31, 32, 33, 34, 35, 36, 37, 38, 39, 40, 41, 42, 43, 44, 45, 46, 47, 48, 49, 50, 51, 52, 53, 54, 55, 56, 57, 58, 59, 60, 61, 62, 63, 64, 65, 66, 67, 68, 69, 70, 71, 72, 73, 74, 75, 76, 77, 78, 79, 80, 81, 82, 83, 84, 85, 86, 87, 88, 89, 90, 91, 92, 93, 94, 95, 96, 97, 98, 99, 100, 101, 102, 103, 104, 105, 106, 107, 108, 109, 110, 111, 112, 113, 114, 115, 116, 117, 118, 119, 120, 121, 122, 123, 124, 125, 126, 127, 128, 129, 130, 131, 132, 133, 134, 135, 136, 137, 138, 139, 140, 141, 142, 143, 144, 145, 146, 147, 148, 149, 150, 151, 152, 153, 154, 155, 156, 157, 158, 159, 160, 161, 162, 163, 164, 165, 166, 167, 168, 169, 170, 171, 172, 173, 174, 175, 176, 177, 178, 179, 180, 181, 182, 183, 184, 185, 192, 193, 194, 195, 196, 197, 198, 199, 200, 201, 202, 203, 204, 205, 206, 207, 208, 209, 210, 211, 212, 213, 214, 215, 216, 217, 218, 219, 220, 221, 222, 223, 224, 225, 226, 227, 228, 229, 230, 231, 232, 233, 234, 235, 236, 237, 238, 239, 240] (by decide +kernel) (by decide +kernel)
set_option maxRecDepth 20000 in
theorem gX9_run_X6_giveTurnsInRing : GoodIn wsX9_run (wsV RX9 102 RX6 yX6_giveTurnsInRing wsX6_giveTurnsInRing) := goodIn_app (goodIn_of _ (by decide +kernel)) ggX9_run_X6_giveTurnsInRing
theorem dX9_run_0 : decode cX9_run 0 = .ok (.iload_n 1, 1) := by decide +kernel
theorem dX9_run_1 : decode cX9_run 1 = .ok (.ifCond .lt 10, 3) := by decide +kernel
theorem dX9_run_4 : decode cX9_run 4 = .ok (.iload_n 1, 1) := by decide +kernel
theorem dX9_run_5 : decode cX9_run 5 = .ok (.sipush 400, 3) := by decide +kernel
theorem dX9_run_8 : decode cX9_run 8 = .ok (.if_icmp .le 6, 3) := by decide +kernel
theorem dX9_run_11 : decode cX9_run 11 = .ok (.bipush (-2), 2) := by decide +kernel
theorem dX9_run_13 : decode cX9_run 13 = .ok (.ireturn, 1) := by decide +kernel
theorem dX9_run_14 : decode cX9_run 14 = .ok (.aload_n 0, 1) := by decide +kernel
theorem dX9_run_15 : decode cX9_run 15 = .ok (.getfield 48, 3) := by decide +kernel
theorem dX9_run_18 : decode cX9_run 18 = .ok (.ifCond .ne 6, 3) := by decide +kernel
theorem dX9_run_21 : decode cX9_run 21 = .ok (.bipush (-3), 2) := by decide +kernel
theorem dX9_run_23 : decode cX9_run 23 = .ok (.ireturn, 1) := by decide +kernel
theorem dX9_run_24 : decode cX9_run 24 = .ok (.aload_n 0, 1) := by decide +kernel
theorem dX9_run_25 : decode cX9_run 25 = .ok (.getfield 44, 3) := by decide +kernel
theorem dX9_run_28 : decode cX9_run 28 = .ok (.iload_n 1, 1) := by decide +kernel
theorem dX9_run_29 : decode cX9_run 29 = .ok (.invokevirtual 102, 3) := by decide +kernel
theorem dX9_run_32 : decode cX9_run 32 = .ok (.ireturn, 1) := by decide +kernel
set_option maxRecDepth 20000 in
theorem ggX9_interrupt_X9_isThread : GoodIn wsX9_interrupt wsX9_isThread := goodIn_r _ [7, 1, 2, 8, 9, 10, 11, 12, 13, 23, 24, 25, 26, 27, 28, 29, 30, 31, 32, 33, 34, 35, 36, 37, 38, 39, 40, 41] (by decide +kernel) (by decide +kernel)
set_option maxRecDepth 20000 in
theorem gX9_interrupt_X9_isThread : GoodIn wsX9_interrupt (wsV RX9 95 RX9 yX9_isThread wsX9_isThread) := goodIn_app (goodIn_of _ (by decide +kernel)) ggX9_interrupt_X9_isThread
set_option maxRecDepth 20000 in
theorem ggX9_interrupt_X6_markInterrupted : GoodIn wsX9_interrupt wsX6_markInterrupted := goodIn_r _ [17, 18, 19, 20, 11, 21, 13, 22, 42, 43, 44, 45, 46, 47, 48, 49, 29, 30, 31, 32, 33, 34, 35, 36, 37, 38, 39, 40, 41] (by decide +kernel) (by decide +kernel)
set_option maxRecDepth 20000 in
theorem gX9_interrupt_X6_markInterrupted : GoodIn wsX9_interrupt (wsV RX9 106 RX6 yX6_markInterrupted wsX6_markInterrupted) := goodIn_app (goodIn_of _ (by decide +kernel)) ggX9_interrupt_X6_markInterrupted
theorem dX9_interrupt_0 : decode cX9_interrupt 0 = .ok (.aload_n 0, 1) := by decide +kernel
theorem dX9_interrupt_1 : decode cX9_interrupt 1 = .ok (.iload_n 1, 1) := by decide +kernel
theorem dX9_interrupt_2 : decode cX9_interrupt 2 = .ok (.invokevirtual 95, 3) := by decide +kernel
theorem dX9_interrupt_5 : decode cX9_interrupt 5 = .ok (.ifCond .ne 6, 3) := by decide +kernel
theorem dX9_interrupt_8 : decode cX9_interrupt 8 = .ok (.bipush (-2), 2) := by decide +kernel
theorem dX9_interrupt_10 : decode cX9_interrupt 10 = .ok (.ireturn, 1) := by decide +kernel
theorem dX9_interrupt_11 : decode cX9_interrupt 11 = .ok (.aload_n 0, 1) := by decide +kernel
theorem dX9_interrupt_12 : decode cX9_interrupt 12 = .ok (.getfield 48, 3) := by decide +kernel
theorem dX9_interrupt_15 : decode cX9_interrupt 15 = .ok (.ifCond .ne 6, 3) := by decide +kernel
theorem dX9_interrupt_18 : decode cX9_interrupt 18 = .ok (.bipush (-3), 2) := by decide +kernel
theorem dX9_interrupt_20 : decode cX9_interrupt 20 = .ok (.ireturn, 1) := by decide +kernel
theorem dX9_interrupt_21 : decode cX9_interrupt 21 = .ok (.aload_n 0, 1) := by decide +kernel
theorem dX9_interrupt_22 : decode cX9_interrupt 22 = .ok (.getfield 44, 3) := by decide +kernel
theorem dX9_interrupt_25 : decode cX9_interrupt 25 = .ok (.iload_n 1, 1) := by decide +kernel
theorem dX9_interrupt_26 : decode cX9_interrupt 26 = .ok (.invokevirtual 106, 3) := by decide +kernel
theorem dX9_interrupt_29 : decode cX9_interrupt 29 = .ok (.ifCond .eq 7, 3) := by decide +kernel
theorem dX9_interrupt_32 : decode cX9_interrupt 32 = .ok (.iconst 1, 1) := by decide +kernel
theorem dX9_interrupt_33 : decode cX9_interrupt 33 = .ok (.goto 4, 3) := by decide +kernel
theorem dX9_interrupt_36 : decode cX9_interrupt 36 = .ok (.iconst 0, 1) := by decide +kernel
theorem dX9_interrupt_37 : decode cX9_interrupt 37 = .ok (.ireturn, 1) := by decide +kernel
set_option maxRecDepth 20000 in
theorem ggX9_thread_X9_isThread : GoodIn wsX9_thread wsX9_isThread := goodIn_r _ [7, 1, 2, 8, 9, 10, 11, 12, 13, 23, 24, 25, 26, 27, 28, 29, 30, 31, 32, 33, 34, 35, 36, 37, 38, 39, 40, 41] (by decide +kernel) (by decide +kernel)
set_option maxRecDepth 20000 in
theorem gX9_thread_X9_isThread : GoodIn wsX9_thread (wsV RX9 95 RX9 yX9_isThread wsX9_isThread) := goodIn_app (goodIn_of _ (by decide +kernel)) ggX9_thread_X9_isThread
set_option maxRecDepth 20000 in
theorem ggX9_thread_X6_tellOfThread : GoodIn wsX9_thread wsX6_tellOfThread := goodIn_r _ [17, 18, 19, 20, 11, 21, 13, 22, 42, 43, 44, 45, 46, 47, 48, 49, 29, 30, 31, 32, 33, 34, 35, 36, 37, 38, 39, 40, 41] (by decide +kernel) (by decide +kernel)
set_option maxRecDepth 20000 in
theorem gX9_thread_X6_tellOfThread : GoodIn wsX9_thread (wsV RX9 109 RX6 yX6_tellOfThread wsX6_tellOfThread) := goodIn_app (goodIn_of _ (by decide +kernel)) ggX9_thread_X6_tellOfThread
theorem dX9_thread_0 : decode cX9_thread 0 = .ok (.aload_n 0, 1) := by decide +kernel
theorem dX9_thread_1 : decode cX9_thread 1 = .ok (.iload_n 1, 1) := by decide +kernel
theorem dX9_thread_2 : decode cX9_thread 2 = .ok (.invokevirtual 95, 3) := by decide +kernel
theorem dX9_thread_5 : decode cX9_thread 5 = .ok (.ifCond .eq 12, 3) := by decide +kernel
theorem dX9_thread_8 : decode cX9_thread 8 = .ok (.iload_n 2, 1) := by decide +kernel
theorem dX9_thread_9 : decode cX9_thread 9 = .ok (.ifCond .lt 8, 3) := by decide +kernel
theorem dX9_thread_12 : decode cX9_thread 12 = .ok (.iload_n 2, 1) := by decide +kernel
theorem dX9_thread_13 : decode cX9_thread 13 = .ok (.iconst 4, 1) := by decide +kernel
theorem dX9_thread_14 : decode cX9_thread 14 = .ok (.if_icmp .le 6, 3) := by decide +kernel
theorem dX9_thread_17 : decode cX9_thread 17 = .ok (.bipush (-2), 2) := by decide +kernel
theorem dX9_thread_19 : decode cX9_thread 19 = .ok (.ireturn, 1) := by decide +kernel
theorem dX9_thread_20 : decode cX9_thread 20 = .ok (.aload_n 0, 1) := by decide +kernel
theorem dX9_thread_21 : decode cX9_thread 21 = .ok (.getfield 48, 3) := by decide +kernel
theorem dX9_thread_24 : decode cX9_thread 24 = .ok (.ifCond .ne 6, 3) := by decide +kernel
theorem dX9_thread_27 : decode cX9_thread 27 = .ok (.bipush (-3), 2) := by decide +kernel
theorem dX9_thread_29 : decode cX9_thread 29 = .ok (.ireturn, 1) := by decide +kernel
theorem dX9_thread_30 : decode cX9_thread 30 = .ok (.aload_n 0, 1) := by decide +kernel
theorem dX9_thread_31 : decode cX9_thread 31 = .ok (.getfield 44, 3) := by decide +kernel
theorem dX9_thread_34 : decode cX9_thread 34 = .ok (.iload_n 1, 1) := by decide +kernel
theorem dX9_thread_35 : decode cX9_thread 35 = .ok (.iload_n 2, 1) := by decide +kernel
theorem dX9_thread_36 : decode cX9_thread 36 = .ok (.invokevirtual 109, 3) := by decide +kernel
theorem dX9_thread_39 : decode cX9_thread 39 = .ok (.ireturn, 1) := by decide +kernel
set_option maxRecDepth 20000 in
theorem ggX9_out_X6_joinedBytes : GoodIn wsX9_out wsX6_joinedBytes := goodIn_r _ [8, 9, 10, 11, 12, 13, 14, 15, 16, 29, 30, 31, 32, 33, 34, 35, 36, 37, 38, 39, 40, 41, 42, 43, 44, 45, 46, 47, 48, 49, 50, 51, 52, 53, 54] (by decide +kernel) (by decide +kernel)
set_option maxRecDepth 20000 in
theorem gX9_out_X6_joinedBytes : GoodIn wsX9_out (wsV RX9 112 RX6 yX6_joinedBytes wsX6_joinedBytes) := goodIn_app (goodIn_of _ (by decide +kernel)) ggX9_out_X6_joinedBytes
set_option maxRecDepth 20000 in
theorem ggX9_out_X2_byteAt : GoodIn wsX9_out wsX2_byteAt := goodIn_r _ [20, 21, 22, 46, 47, 48, 49, 50, 51, 52, 53, 54] (by decide +kernel) (by decide +kernel)
set_option maxRecDepth 20000 in
theorem gX9_out_X2_byteAt : GoodIn wsX9_out (wsV RX9 115 RX2 yX2_byteAt wsX2_byteAt) := goodIn_app (goodIn_of _ (by decide +kernel)) ggX9_out_X2_byteAt
theorem dX9_out_0 : decode cX9_out 0 = .ok (.aload_n 0, 1) := by decide +kernel
theorem dX9_out_1 : decode cX9_out 1 = .ok (.getfield 48, 3) := by decide +kernel
theorem dX9_out_4 : decode cX9_out 4 = .ok (.ifCond .eq 18, 3) := by decide +kernel
theorem dX9_out_7 : decode cX9_out 7 = .ok (.iload_n 1, 1) := by decide +kernel
theorem dX9_out_8 : decode cX9_out 8 = .ok (.ifCond .lt 14, 3) := by decide +kernel
theorem dX9_out_11 : decode cX9_out 11 = .ok (.iload_n 1, 1) := by decide +kernel
theorem dX9_out_12 : decode cX9_out 12 = .ok (.aload_n 0, 1) := by decide +kernel
theorem dX9_out_13 : decode cX9_out 13 = .ok (.getfield 44, 3) := by decide +kernel
theorem dX9_out_16 : decode cX9_out 16 = .ok (.invokevirtual 112, 3) := by decide +kernel
theorem dX9_out_19 : decode cX9_out 19 = .ok (.if_icmp .lt 5, 3) := by decide +kernel
theorem dX9_out_22 : decode cX9_out 22 = .ok (.iconst (-1), 1) := by decide +kernel
theorem dX9_out_23 : decode cX9_out 23 = .ok (.ireturn, 1) := by decide +kernel
theorem dX9_out_24 : decode cX9_out 24 = .ok (.aload_n 0, 1) := by decide +kernel
theorem dX9_out_25 : decode cX9_out 25 = .ok (.getfield 35, 3) := by decide +kernel
theorem dX9_out_28 : decode cX9_out 28 = .ok (.iload_n 1, 1) := by decide +kernel
theorem dX9_out_29 : decode cX9_out 29 = .ok (.invokevirtual 115, 3) := by decide +kernel
theorem dX9_out_32 : decode cX9_out 32 = .ok (.ireturn, 1) := by decide +kernel
set_option maxRecDepth 20000 in
theorem ggX9_told_X6_tellOfStores : GoodIn wsX9_told wsX6_tellOfStores := goodIn_r _ [7, 8, 9, 10, 11, 12, 13, 14, 15, 16, 17, 18, 19, 6, 20, 21, 22, 23, 24, 25, 41, 42, 43, 44, 45, 46, 47, 48, 49, 50, 51, 52, 53, 54, 55, 56, 57, 58, 59, 60, 61, 62, 63, 64, 65, 66, 67, 68, 69] (by decide +kernel) (by decide +kernel)
set_option maxRecDepth 20000 in
theorem gX9_told_X6_tellOfStores : GoodIn wsX9_told (wsV RX9 118 RX6 yX6_tellOfStores wsX6_tellOfStores) := goodIn_app (goodIn_of _ (by decide +kernel)) ggX9_told_X6_tellOfStores
set_option maxRecDepth 20000 in
theorem ggX9_told_X6_tellOfCourse : GoodIn wsX9_told wsX6_tellOfCourse := goodIn_r _ [29, 30, 31, 32, 33, 34, 41, 42, 43, 44, 45, 46, 47, 48, 49, 50, 51, 52, 53, 70, 71, 72] (by decide +kernel) (by decide +kernel)
set_option maxRecDepth 20000 in
theorem gX9_told_X6_tellOfCourse : GoodIn wsX9_told (wsV RX9 121 RX6 yX6_tellOfCourse wsX6_tellOfCourse) := goodIn_app (goodIn_of _ (by decide +kernel)) ggX9_told_X6_tellOfCourse
theorem dX9_told_0 : decode cX9_told 0 = .ok (.iload_n 1, 1) := by decide +kernel
theorem dX9_told_1 : decode cX9_told 1 = .ok (.ifCond .lt 9, 3) := by decide +kernel
theorem dX9_told_4 : decode cX9_told 4 = .ok (.iload_n 1, 1) := by decide +kernel
theorem dX9_told_5 : decode cX9_told 5 = .ok (.bipush 10, 2) := by decide +kernel
theorem dX9_told_7 : decode cX9_told 7 = .ok (.if_icmp .le 6, 3) := by decide +kernel
theorem dX9_told_10 : decode cX9_told 10 = .ok (.bipush (-2), 2) := by decide +kernel
theorem dX9_told_12 : decode cX9_told 12 = .ok (.ireturn, 1) := by decide +kernel
theorem dX9_told_13 : decode cX9_told 13 = .ok (.aload_n 0, 1) := by decide +kernel
theorem dX9_told_14 : decode cX9_told 14 = .ok (.getfield 48, 3) := by decide +kernel
theorem dX9_told_17 : decode cX9_told 17 = .ok (.ifCond .ne 6, 3) := by decide +kernel
theorem dX9_told_20 : decode cX9_told 20 = .ok (.bipush (-3), 2) := by decide +kernel
theorem dX9_told_22 : decode cX9_told 22 = .ok (.ireturn, 1) := by decide +kernel
theorem dX9_told_23 : decode cX9_told 23 = .ok (.iload_n 1, 1) := by decide +kernel
theorem dX9_told_24 : decode cX9_told 24 = .ok (.bipush 6, 2) := by decide +kernel
theorem dX9_told_26 : decode cX9_told 26 = .ok (.if_icmp .ge 14, 3) := by decide +kernel
theorem dX9_told_29 : decode cX9_told 29 = .ok (.aload_n 0, 1) := by decide +kernel
theorem dX9_told_30 : decode cX9_told 30 = .ok (.getfield 44, 3) := by decide +kernel
theorem dX9_told_33 : decode cX9_told 33 = .ok (.iload_n 1, 1) := by decide +kernel
theorem dX9_told_34 : decode cX9_told 34 = .ok (.invokevirtual 118, 3) := by decide +kernel
theorem dX9_told_37 : decode cX9_told 37 = .ok (.goto 11, 3) := by decide +kernel
theorem dX9_told_40 : decode cX9_told 40 = .ok (.aload_n 0, 1) := by decide +kernel
theorem dX9_told_41 : decode cX9_told 41 = .ok (.getfield 44, 3) := by decide +kernel
theorem dX9_told_44 : decode cX9_told 44 = .ok (.iload_n 1, 1) := by decide +kernel
theorem dX9_told_45 : decode cX9_told 45 = .ok (.invokevirtual 121, 3) := by decide +kernel
theorem dX9_told_48 : decode cX9_told 48 = .ok (.ireturn, 1) := by decide +kernel
set_option maxRecDepth 20000 in
theorem ggX9_waiting_X6_numberInLine : GoodIn wsX9_waiting wsX6_numberInLine := goodIn_r _ [7, 8, 9, 10, 11, 12, 13, 14, 15, 22, 23, 24, 25, 26, 27, 28, 29, 30, 31, 32, 33, 34, 35, 36, 37, 38, 39, 40, 41, 42, 43, 44, 45] (by decide +kernel) (by decide +kernel)
set_option maxRecDepth 20000 in
theorem gX9_waiting_X6_numberInLine : GoodIn wsX9_waiting (wsV RX9 124 RX6 yX6_numberInLine wsX6_numberInLine) := goodIn_app (goodIn_of _ (by decide +kernel)) ggX9_waiting_X6_numberInLine
theorem dX9_waiting_0 : decode cX9_waiting 0 = .ok (.aload_n 0, 1) := by decide +kernel
theorem dX9_waiting_1 : decode cX9_waiting 1 = .ok (.getfield 48, 3) := by decide +kernel
theorem dX9_waiting_4 : decode cX9_waiting 4 = .ok (.ifCond .ne 6, 3) := by decide +kernel
theorem dX9_waiting_7 : decode cX9_waiting 7 = .ok (.bipush (-3), 2) := by decide +kernel
theorem dX9_waiting_9 : decode cX9_waiting 9 = .ok (.ireturn, 1) := by decide +kernel
theorem dX9_waiting_10 : decode cX9_waiting 10 = .ok (.aload_n 0, 1) := by decide +kernel
theorem dX9_waiting_11 : decode cX9_waiting 11 = .ok (.getfield 44, 3) := by decide +kernel
theorem dX9_waiting_14 : decode cX9_waiting 14 = .ok (.iload_n 1, 1) := by decide +kernel
theorem dX9_waiting_15 : decode cX9_waiting 15 = .ok (.invokevirtual 124, 3) := by decide +kernel
theorem dX9_waiting_18 : decode cX9_waiting 18 = .ok (.ireturn, 1) := by decide +kernel
set_option maxRecDepth 20000 in
theorem ggX9_plain_X2_make : GoodIn wsX9_plain wsX2_make := goodIn_r _ [6, 7, 8, 9, 10, 11, 12, 13, 14, 15, 5, 16, 17, 18, 19, 20, 21, 22, 23, 24, 25, 26, 27, 28, 29, 30, 31, 32, 33, 34, 35, 36, 37, 38, 39, 40, 41, 42, 43, 44, 45, 46, 47, 48, 49, 50, 51, 52, 53, 54, 55, 56, 57, 58, 59, 60, 61, 62, 63, 64, 65, 66, 67, 68, 69, 70, 71, 72, 73, 74, 75, 76, 87, 88, 89, 90, 91, 92, 93, 94, 95, 96, 97, 98, 99, 100, 101] (by decide +kernel) (by decide +kernel)
set_option maxRecDepth 20000 in
theorem gX9_plain_X2_make : GoodIn wsX9_plain (wsV RX9 79 RX2 yX2_make wsX2_make) := goodIn_app (goodIn_of _ (by decide +kernel)) ggX9_plain_X2_make
set_option maxRecDepth 20000 in
theorem ggX9_plain_X2_byteAt : GoodIn wsX9_plain wsX2_byteAt := goodIn_r _ [80, 8, 68, 87, 88, 89, 90, 91, 92, 93, 94, 95] (by decide +kernel) (by decide +kernel)
set_option maxRecDepth 20000 in
theorem gX9_plain_X2_byteAt : GoodIn wsX9_plain (wsV RX9 115 RX2 yX2_byteAt wsX2_byteAt) := goodIn_app (goodIn_of _ (by decide +kernel)) ggX9_plain_X2_byteAt
theorem dX9_plain_0 : decode cX9_plain 0 = .ok (.aload_n 0, 1) := by decide +kernel
theorem dX9_plain_1 : decode cX9_plain 1 = .ok (.getfield 35, 3) := by decide +kernel
theorem dX9_plain_4 : decode cX9_plain 4 = .ok (.invokevirtual 79, 3) := by decide +kernel
theorem dX9_plain_7 : decode cX9_plain 7 = .ok (.aload_n 0, 1) := by decide +kernel
theorem dX9_plain_8 : decode cX9_plain 8 = .ok (.getfield 35, 3) := by decide +kernel
theorem dX9_plain_11 : decode cX9_plain 11 = .ok (.iload_n 1, 1) := by decide +kernel
theorem dX9_plain_12 : decode cX9_plain 12 = .ok (.invokevirtual 115, 3) := by decide +kernel
theorem dX9_plain_15 : decode cX9_plain 15 = .ok (.ireturn, 1) := by decide +kernel
set_option maxRecDepth 20000 in
theorem ggX9_close_X6_endAll : GoodIn wsX9_close wsX6_endAll := goodIn_r _ [7, 8, 9, 10, 11, 12, 13, 14, 15, 16, 17, 18, 19, 20, 21, 22, 23, 24, 25, 26, 27, 28, 29, 30, 31, 32, 33, 34, 35, 36, 37, 38, 39, 40, 47, 48, 49, 50, 51, 52, 53, 54, 55, 56, 57, 58, 59, 60, 61, 62, 63, 64, 65, 66, 67, 68, 69, 70] (by decide +kernel) (by decide +kernel)
set_option maxRecDepth 20000 in
theorem gX9_close_X6_endAll : GoodIn wsX9_close (wsV RX9 127 RX6 yX6_endAll wsX6_endAll) := goodIn_app (goodIn_of _ (by decide +kernel)) ggX9_close_X6_endAll
theorem dX9_close_0 : decode cX9_close 0 = .ok (.aload_n 0, 1) := by decide +kernel
theorem dX9_close_1 : decode cX9_close 1 = .ok (.getfield 48, 3) := by decide +kernel
theorem dX9_close_4 : decode cX9_close 4 = .ok (.ifCond .ne 6, 3) := by decide +kernel
theorem dX9_close_7 : decode cX9_close 7 = .ok (.bipush (-3), 2) := by decide +kernel
theorem dX9_close_9 : decode cX9_close 9 = .ok (.ireturn, 1) := by decide +kernel
theorem dX9_close_10 : decode cX9_close 10 = .ok (.aload_n 0, 1) := by decide +kernel
theorem dX9_close_11 : decode cX9_close 11 = .ok (.getfield 44, 3) := by decide +kernel
theorem dX9_close_14 : decode cX9_close 14 = .ok (.invokevirtual 127, 3) := by decide +kernel
theorem dX9_close_17 : decode cX9_close 17 = .ok (.ireturn, 1) := by decide +kernel
set_option maxRecDepth 20000 in
theorem ggX9_clear_X7_length : GoodIn wsX9_clear wsX7_length := goodIn_r _ [9, 10, 33, 34] (by decide +kernel) (by decide +kernel)
set_option maxRecDepth 20000 in
theorem gX9_clear_X7_length : GoodIn wsX9_clear (wsV RX9 63 RX7 yX7_length wsX7_length) := goodIn_app (goodIn_of _ (by decide +kernel)) ggX9_clear_X7_length
set_option maxRecDepth 20000 in
theorem ggX9_clear_X7_empty : GoodIn wsX9_clear wsX7_empty := goodIn_r _ [14, 10, 33, 34] (by decide +kernel) (by decide +kernel)
set_option maxRecDepth 20000 in
theorem gX9_clear_X7_empty : GoodIn wsX9_clear (wsV RX9 130 RX7 yX7_empty wsX7_empty) := goodIn_app (goodIn_of _ (by decide +kernel)) ggX9_clear_X7_empty
set_option maxRecDepth 20000 in
theorem ggX9_clear_X3_removeAll : GoodIn wsX9_clear wsX3_removeAll := goodIn_r _ [19, 20, 35, 36, 37] (by decide +kernel) (by decide +kernel)
set_option maxRecDepth 20000 in
theorem gX9_clear_X3_removeAll : GoodIn wsX9_clear (wsV RX9 133 RX3 yX3_removeAll wsX3_removeAll) := goodIn_app (goodIn_of _ (by decide +kernel)) ggX9_clear_X3_removeAll
set_option maxRecDepth 20000 in
theorem ggX9_clear_X2_forget : GoodIn wsX9_clear wsX2_forget := goodIn_r _ [25, 26, 38, 39, 40, 41, 42, 43, 44, 45, 46] (by decide +kernel) (by decide +kernel)
set_option maxRecDepth 20000 in
theorem gX9_clear_X2_forget : GoodIn wsX9_clear (wsV RX9 60 RX2 yX2_forget wsX2_forget) := goodIn_app (goodIn_of _ (by decide +kernel)) ggX9_clear_X2_forget
theorem dX9_clear_0 : decode cX9_clear 0 = .ok (.aload_n 0, 1) := by decide +kernel
theorem dX9_clear_1 : decode cX9_clear 1 = .ok (.getfield 12, 3) := by decide +kernel
theorem dX9_clear_4 : decode cX9_clear 4 = .ok (.invokevirtual 63, 3) := by decide +kernel
theorem dX9_clear_7 : decode cX9_clear 7 = .ok (.istore_n 1, 1) := by decide +kernel
theorem dX9_clear_8 : decode cX9_clear 8 = .ok (.aload_n 0, 1) := by decide +kernel
theorem dX9_clear_9 : decode cX9_clear 9 = .ok (.getfield 12, 3) := by decide +kernel
theorem dX9_clear_12 : decode cX9_clear 12 = .ok (.invokevirtual 130, 3) := by decide +kernel
theorem dX9_clear_15 : decode cX9_clear 15 = .ok (.aload_n 0, 1) := by decide +kernel
theorem dX9_clear_16 : decode cX9_clear 16 = .ok (.getfield 26, 3) := by decide +kernel
theorem dX9_clear_19 : decode cX9_clear 19 = .ok (.invokevirtual 133, 3) := by decide +kernel
theorem dX9_clear_22 : decode cX9_clear 22 = .ok (.aload_n 0, 1) := by decide +kernel
theorem dX9_clear_23 : decode cX9_clear 23 = .ok (.getfield 35, 3) := by decide +kernel
theorem dX9_clear_26 : decode cX9_clear 26 = .ok (.invokevirtual 60, 3) := by decide +kernel
theorem dX9_clear_29 : decode cX9_clear 29 = .ok (.aload_n 0, 1) := by decide +kernel
theorem dX9_clear_30 : decode cX9_clear 30 = .ok (.iconst 0, 1) := by decide +kernel
theorem dX9_clear_31 : decode cX9_clear 31 = .ok (.putfield 48, 3) := by decide +kernel
theorem dX9_clear_34 : decode cX9_clear 34 = .ok (.iload_n 1, 1) := by decide +kernel
theorem dX9_clear_35 : decode cX9_clear 35 = .ok (.ireturn, 1) := by decide +kernel
set_option maxRecDepth 20000 in
theorem ggX9_isThread_X6_threads : GoodIn wsX9_isThread wsX6_threads := goodIn_r _ [7, 8, 15, 16, 17, 18, 19, 20, 21, 22, 23, 24, 25, 26, 27] (by decide +kernel) (by decide +kernel)
set_option maxRecDepth 20000 in
theorem gX9_isThread_X6_threads : GoodIn wsX9_isThread (wsV RX9 136 RX6 yX6_threads wsX6_threads) := goodIn_app (goodIn_of _ (by decide +kernel)) ggX9_isThread_X6_threads
theorem dX9_isThread_0 : decode cX9_isThread 0 = .ok (.aload_n 0, 1) := by decide +kernel
theorem dX9_isThread_1 : decode cX9_isThread 1 = .ok (.getfield 48, 3) := by decide +kernel
theorem dX9_isThread_4 : decode cX9_isThread 4 = .ok (.ifCond .eq 13, 3) := by decide +kernel
theorem dX9_isThread_7 : decode cX9_isThread 7 = .ok (.aload_n 0, 1) := by decide +kernel
theorem dX9_isThread_8 : decode cX9_isThread 8 = .ok (.getfield 44, 3) := by decide +kernel
theorem dX9_isThread_11 : decode cX9_isThread 11 = .ok (.invokevirtual 136, 3) := by decide +kernel
theorem dX9_isThread_14 : decode cX9_isThread 14 = .ok (.goto 5, 3) := by decide +kernel
theorem dX9_isThread_17 : decode cX9_isThread 17 = .ok (.bipush 6, 2) := by decide +kernel
theorem dX9_isThread_19 : decode cX9_isThread 19 = .ok (.istore_n 2, 1) := by decide +kernel
theorem dX9_isThread_20 : decode cX9_isThread 20 = .ok (.iload_n 1, 1) := by decide +kernel
theorem dX9_isThread_21 : decode cX9_isThread 21 = .ok (.ifCond .lt 12, 3) := by decide +kernel
theorem dX9_isThread_24 : decode cX9_isThread 24 = .ok (.iload_n 1, 1) := by decide +kernel
theorem dX9_isThread_25 : decode cX9_isThread 25 = .ok (.iload_n 2, 1) := by decide +kernel
theorem dX9_isThread_26 : decode cX9_isThread 26 = .ok (.if_icmp .ge 7, 3) := by decide +kernel
theorem dX9_isThread_29 : decode cX9_isThread 29 = .ok (.iconst 1, 1) := by decide +kernel
theorem dX9_isThread_30 : decode cX9_isThread 30 = .ok (.goto 4, 3) := by decide +kernel
theorem dX9_isThread_33 : decode cX9_isThread 33 = .ok (.iconst 0, 1) := by decide +kernel
theorem dX9_isThread_34 : decode cX9_isThread 34 = .ok (.ireturn, 1) := by decide +kernel
theorem dX10_init_0 : decode cX10_init 0 = .ok (.aload_n 0, 1) := by decide +kernel
theorem dX10_init_1 : decode cX10_init 1 = .ok (.invokespecial 1, 3) := by decide +kernel
theorem dX10_init_4 : decode cX10_init 4 = .ok (.aload_n 0, 1) := by decide +kernel
theorem dX10_init_5 : decode cX10_init 5 = .ok (.sipush 160, 3) := by decide +kernel
theorem dX10_init_8 : decode cX10_init 8 = .ok (.newarray .int, 2) := by decide +kernel
theorem dX10_init_10 : decode cX10_init 10 = .ok (.putfield 7, 3) := by decide +kernel
theorem dX10_init_13 : decode cX10_init 13 = .ok (.aload_n 0, 1) := by decide +kernel
theorem dX10_init_14 : decode cX10_init 14 = .ok (.bipush 8, 2) := by decide +kernel
theorem dX10_init_16 : decode cX10_init 16 = .ok (.putfield 13, 3) := by decide +kernel
theorem dX10_init_19 : decode cX10_init 19 = .ok (.aload_n 0, 1) := by decide +kernel
theorem dX10_init_20 : decode cX10_init 20 = .ok (.bipush 16, 2) := by decide +kernel
theorem dX10_init_22 : decode cX10_init 22 = .ok (.putfield 17, 3) := by decide +kernel
theorem dX10_init_25 : decode cX10_init 25 = .ok (.aload_n 0, 1) := by decide +kernel
theorem dX10_init_26 : decode cX10_init 26 = .ok (.bipush 64, 2) := by decide +kernel
theorem dX10_init_28 : decode cX10_init 28 = .ok (.putfield 20, 3) := by decide +kernel
theorem dX10_init_31 : decode cX10_init 31 = .ok (.aload_n 0, 1) := by decide +kernel
theorem dX10_init_32 : decode cX10_init 32 = .ok (.iconst 2, 1) := by decide +kernel
theorem dX10_init_33 : decode cX10_init 33 = .ok (.putfield 23, 3) := by decide +kernel
theorem dX10_init_36 : decode cX10_init 36 = .ok (.aload_n 0, 1) := by decide +kernel
theorem dX10_init_37 : decode cX10_init 37 = .ok (.bipush 40, 2) := by decide +kernel
theorem dX10_init_39 : decode cX10_init 39 = .ok (.newarray .int, 2) := by decide +kernel
theorem dX10_init_41 : decode cX10_init 41 = .ok (.putfield 26, 3) := by decide +kernel
theorem dX10_init_44 : decode cX10_init 44 = .ok (.aload_n 0, 1) := by decide +kernel
theorem dX10_init_45 : decode cX10_init 45 = .ok (.bipush 40, 2) := by decide +kernel
theorem dX10_init_47 : decode cX10_init 47 = .ok (.newarray .int, 2) := by decide +kernel
theorem dX10_init_49 : decode cX10_init 49 = .ok (.putfield 29, 3) := by decide +kernel
theorem dX10_init_52 : decode cX10_init 52 = .ok (.aload_n 0, 1) := by decide +kernel
theorem dX10_init_53 : decode cX10_init 53 = .ok (.bipush 40, 2) := by decide +kernel
theorem dX10_init_55 : decode cX10_init 55 = .ok (.newarray .boolean, 2) := by decide +kernel
theorem dX10_init_57 : decode cX10_init 57 = .ok (.putfield 32, 3) := by decide +kernel
theorem dX10_init_60 : decode cX10_init 60 = .ok (.aload_n 0, 1) := by decide +kernel
theorem dX10_init_61 : decode cX10_init 61 = .ok (.sipush 700, 3) := by decide +kernel
theorem dX10_init_64 : decode cX10_init 64 = .ok (.newarray .int, 2) := by decide +kernel
theorem dX10_init_66 : decode cX10_init 66 = .ok (.putfield 36, 3) := by decide +kernel
theorem dX10_init_69 : decode cX10_init 69 = .ok (.aload_n 0, 1) := by decide +kernel
theorem dX10_init_70 : decode cX10_init 70 = .ok (.bipush 40, 2) := by decide +kernel
theorem dX10_init_72 : decode cX10_init 72 = .ok (.newarray .int, 2) := by decide +kernel
theorem dX10_init_74 : decode cX10_init 74 = .ok (.putfield 39, 3) := by decide +kernel
theorem dX10_init_77 : decode cX10_init 77 = .ok (.aload_n 0, 1) := by decide +kernel
theorem dX10_init_78 : decode cX10_init 78 = .ok (.bipush 40, 2) := by decide +kernel
theorem dX10_init_80 : decode cX10_init 80 = .ok (.newarray .int, 2) := by decide +kernel
theorem dX10_init_82 : decode cX10_init 82 = .ok (.putfield 42, 3) := by decide +kernel
theorem dX10_init_85 : decode cX10_init 85 = .ok (.aload_n 0, 1) := by decide +kernel
theorem dX10_init_86 : decode cX10_init 86 = .ok (.bipush 6, 2) := by decide +kernel
theorem dX10_init_88 : decode cX10_init 88 = .ok (.newarray .int, 2) := by decide +kernel
theorem dX10_init_90 : decode cX10_init 90 = .ok (.putfield 45, 3) := by decide +kernel
theorem dX10_init_93 : decode cX10_init 93 = .ok (.aload_n 0, 1) := by decide +kernel
theorem dX10_init_94 : decode cX10_init 94 = .ok (.bipush 6, 2) := by decide +kernel
theorem dX10_init_96 : decode cX10_init 96 = .ok (.newarray .int, 2) := by decide +kernel
theorem dX10_init_98 : decode cX10_init 98 = .ok (.putfield 48, 3) := by decide +kernel
theorem dX10_init_101 : decode cX10_init 101 = .ok (.aload_n 0, 1) := by decide +kernel
theorem dX10_init_102 : decode cX10_init 102 = .ok (.bipush 6, 2) := by decide +kernel
theorem dX10_init_104 : decode cX10_init 104 = .ok (.newarray .int, 2) := by decide +kernel
theorem dX10_init_106 : decode cX10_init 106 = .ok (.putfield 51, 3) := by decide +kernel
theorem dX10_init_109 : decode cX10_init 109 = .ok (.aload_n 0, 1) := by decide +kernel
theorem dX10_init_110 : decode cX10_init 110 = .ok (.bipush 6, 2) := by decide +kernel
theorem dX10_init_112 : decode cX10_init 112 = .ok (.newarray .int, 2) := by decide +kernel
theorem dX10_init_114 : decode cX10_init 114 = .ok (.putfield 54, 3) := by decide +kernel
theorem dX10_init_117 : decode cX10_init 117 = .ok (.aload_n 0, 1) := by decide +kernel
theorem dX10_init_118 : decode cX10_init 118 = .ok (.bipush 6, 2) := by decide +kernel
theorem dX10_init_120 : decode cX10_init 120 = .ok (.newarray .int, 2) := by decide +kernel
theorem dX10_init_122 : decode cX10_init 122 = .ok (.putfield 57, 3) := by decide +kernel
theorem dX10_init_125 : decode cX10_init 125 = .ok (.aload_n 0, 1) := by decide +kernel
theorem dX10_init_126 : decode cX10_init 126 = .ok (.bipush 6, 2) := by decide +kernel
theorem dX10_init_128 : decode cX10_init 128 = .ok (.newarray .boolean, 2) := by decide +kernel
theorem dX10_init_130 : decode cX10_init 130 = .ok (.putfield 60, 3) := by decide +kernel
theorem dX10_init_133 : decode cX10_init 133 = .ok (.aload_n 0, 1) := by decide +kernel
theorem dX10_init_134 : decode cX10_init 134 = .ok (.bipush 40, 2) := by decide +kernel
theorem dX10_init_136 : decode cX10_init 136 = .ok (.newarray .boolean, 2) := by decide +kernel
theorem dX10_init_138 : decode cX10_init 138 = .ok (.putfield 63, 3) := by decide +kernel
theorem dX10_init_141 : decode cX10_init 141 = .ok (.aload_n 0, 1) := by decide +kernel
theorem dX10_init_142 : decode cX10_init 142 = .ok (.bipush 40, 2) := by decide +kernel
theorem dX10_init_144 : decode cX10_init 144 = .ok (.newarray .int, 2) := by decide +kernel
theorem dX10_init_146 : decode cX10_init 146 = .ok (.putfield 66, 3) := by decide +kernel
theorem dX10_init_149 : decode cX10_init 149 = .ok (.aload_n 0, 1) := by decide +kernel
theorem dX10_init_150 : decode cX10_init 150 = .ok (.bipush 40, 2) := by decide +kernel
theorem dX10_init_152 : decode cX10_init 152 = .ok (.newarray .boolean, 2) := by decide +kernel
theorem dX10_init_154 : decode cX10_init 154 = .ok (.putfield 69, 3) := by decide +kernel
theorem dX10_init_157 : decode cX10_init 157 = .ok (.aload_n 0, 1) := by decide +kernel
theorem dX10_init_158 : decode cX10_init 158 = .ok (.bipush 6, 2) := by decide +kernel
theorem dX10_init_160 : decode cX10_init 160 = .ok (.newarray .int, 2) := by decide +kernel
theorem dX10_init_162 : decode cX10_init 162 = .ok (.putfield 72, 3) := by decide +kernel
theorem dX10_init_165 : decode cX10_init 165 = .ok (.aload_n 0, 1) := by decide +kernel
theorem dX10_init_166 : decode cX10_init 166 = .ok (.iconst 0, 1) := by decide +kernel
theorem dX10_init_167 : decode cX10_init 167 = .ok (.putfield 75, 3) := by decide +kernel
theorem dX10_init_170 : decode cX10_init 170 = .ok (.return_, 1) := by decide +kernel
theorem dX10_in_0 : decode cX10_in 0 = .ok (.iload_n 0, 1) := by decide +kernel
theorem dX10_in_1 : decode cX10_in 1 = .ok (.iload_n 1, 1) := by decide +kernel
theorem dX10_in_2 : decode cX10_in 2 = .ok (.if_icmp .lt 12, 3) := by decide +kernel
theorem dX10_in_5 : decode cX10_in 5 = .ok (.iload_n 0, 1) := by decide +kernel
theorem dX10_in_6 : decode cX10_in 6 = .ok (.iload_n 2, 1) := by decide +kernel
theorem dX10_in_7 : decode cX10_in 7 = .ok (.if_icmp .gt 7, 3) := by decide +kernel
theorem dX10_in_10 : decode cX10_in 10 = .ok (.iconst 1, 1) := by decide +kernel
theorem dX10_in_11 : decode cX10_in 11 = .ok (.goto 4, 3) := by decide +kernel
theorem dX10_in_14 : decode cX10_in 14 = .ok (.iconst 0, 1) := by decide +kernel
theorem dX10_in_15 : decode cX10_in 15 = .ok (.ireturn, 1) := by decide +kernel
set_option maxRecDepth 20000 in
theorem ggX10_type_X10_in : GoodIn wsX10_type wsX10_in := goodIn_r _ [8] (by decide +kernel) (by decide +kernel)
set_option maxRecDepth 20000 in
theorem gX10_type_X10_in : GoodIn wsX10_type (va_wsS RX10 78 yX10_in wsX10_in) := goodIn_app (goodIn_of _ (by decide +kernel)) ggX10_type_X10_in
theorem dX10_type_0 : decode cX10_type 0 = .ok (.iload_n 1, 1) := by decide +kernel
theorem dX10_type_1 : decode cX10_type 1 = .ok (.iconst 0, 1) := by decide +kernel
theorem dX10_type_2 : decode cX10_type 2 = .ok (.sipush 255, 3) := by decide +kernel
theorem dX10_type_5 : decode cX10_type 5 = .ok (.invokestatic 78, 3) := by decide +kernel
theorem dX10_type_8 : decode cX10_type 8 = .ok (.ifCond .ne 6, 3) := by decide +kernel
theorem dX10_type_11 : decode cX10_type 11 = .ok (.bipush (-2), 2) := by decide +kernel
theorem dX10_type_13 : decode cX10_type 13 = .ok (.ireturn, 1) := by decide +kernel
theorem dX10_type_14 : decode cX10_type 14 = .ok (.aload_n 0, 1) := by decide +kernel
theorem dX10_type_15 : decode cX10_type 15 = .ok (.getfield 82, 3) := by decide +kernel
theorem dX10_type_18 : decode cX10_type 18 = .ok (.ifCond .eq 6, 3) := by decide +kernel
theorem dX10_type_21 : decode cX10_type 21 = .ok (.bipush (-3), 2) := by decide +kernel
theorem dX10_type_23 : decode cX10_type 23 = .ok (.ireturn, 1) := by decide +kernel
theorem dX10_type_24 : decode cX10_type 24 = .ok (.aload_n 0, 1) := by decide +kernel
theorem dX10_type_25 : decode cX10_type 25 = .ok (.getfield 75, 3) := by decide +kernel
theorem dX10_type_28 : decode cX10_type 28 = .ok (.sipush 160, 3) := by decide +kernel
theorem dX10_type_31 : decode cX10_type 31 = .ok (.if_icmp .ne 6, 3) := by decide +kernel
theorem dX10_type_34 : decode cX10_type 34 = .ok (.bipush (-4), 2) := by decide +kernel
theorem dX10_type_36 : decode cX10_type 36 = .ok (.ireturn, 1) := by decide +kernel
theorem dX10_type_37 : decode cX10_type 37 = .ok (.aload_n 0, 1) := by decide +kernel
theorem dX10_type_38 : decode cX10_type 38 = .ok (.getfield 7, 3) := by decide +kernel
theorem dX10_type_41 : decode cX10_type 41 = .ok (.aload_n 0, 1) := by decide +kernel
theorem dX10_type_42 : decode cX10_type 42 = .ok (.getfield 75, 3) := by decide +kernel
theorem dX10_type_45 : decode cX10_type 45 = .ok (.iload_n 1, 1) := by decide +kernel
theorem dX10_type_46 : decode cX10_type 46 = .ok (.iastore, 1) := by decide +kernel
theorem dX10_type_47 : decode cX10_type 47 = .ok (.aload_n 0, 1) := by decide +kernel
theorem dX10_type_48 : decode cX10_type 48 = .ok (.dup, 1) := by decide +kernel
theorem dX10_type_49 : decode cX10_type 49 = .ok (.getfield 75, 3) := by decide +kernel
theorem dX10_type_52 : decode cX10_type 52 = .ok (.iconst 1, 1) := by decide +kernel
theorem dX10_type_53 : decode cX10_type 53 = .ok (.iadd, 1) := by decide +kernel
theorem dX10_type_54 : decode cX10_type 54 = .ok (.putfield 75, 3) := by decide +kernel
theorem dX10_type_57 : decode cX10_type 57 = .ok (.aload_n 0, 1) := by decide +kernel
theorem dX10_type_58 : decode cX10_type 58 = .ok (.iconst 0, 1) := by decide +kernel
theorem dX10_type_59 : decode cX10_type 59 = .ok (.putfield 86, 3) := by decide +kernel
theorem dX10_type_62 : decode cX10_type 62 = .ok (.aload_n 0, 1) := by decide +kernel
theorem dX10_type_63 : decode cX10_type 63 = .ok (.getfield 75, 3) := by decide +kernel
theorem dX10_type_66 : decode cX10_type 66 = .ok (.ireturn, 1) := by decide +kernel
set_option maxRecDepth 20000 in
theorem ggX10_set_X10_in : GoodIn wsX10_set wsX10_in := goodIn_r _ [10] (by decide +kernel) (by decide +kernel)
set_option maxRecDepth 20000 in
theorem gX10_set_X10_in : GoodIn wsX10_set (va_wsS RX10 78 yX10_in wsX10_in) := goodIn_app (goodIn_of _ (by decide +kernel)) ggX10_set_X10_in
theorem dX10_set_0 : decode cX10_set 0 = .ok (.iload_n 1, 1) := by decide +kernel
theorem dX10_set_1 : decode cX10_set 1 = .ok (.ifCond .ne 13, 3) := by decide +kernel
theorem dX10_set_4 : decode cX10_set 4 = .ok (.iload_n 2, 1) := by decide +kernel
theorem dX10_set_5 : decode cX10_set 5 = .ok (.iconst 4, 1) := by decide +kernel
theorem dX10_set_6 : decode cX10_set 6 = .ok (.bipush 32, 2) := by decide +kernel
theorem dX10_set_8 : decode cX10_set 8 = .ok (.invokestatic 78, 3) := by decide +kernel
theorem dX10_set_11 : decode cX10_set 11 = .ok (.goto 55, 3) := by decide +kernel
theorem dX10_set_14 : decode cX10_set 14 = .ok (.iload_n 1, 1) := by decide +kernel
theorem dX10_set_15 : decode cX10_set 15 = .ok (.iconst 1, 1) := by decide +kernel
theorem dX10_set_16 : decode cX10_set 16 = .ok (.if_icmp .ne 13, 3) := by decide +kernel
theorem dX10_set_19 : decode cX10_set 19 = .ok (.iload_n 2, 1) := by decide +kernel
theorem dX10_set_20 : decode cX10_set 20 = .ok (.iconst 0, 1) := by decide +kernel
theorem dX10_set_21 : decode cX10_set 21 = .ok (.bipush 64, 2) := by decide +kernel
theorem dX10_set_23 : decode cX10_set 23 = .ok (.invokestatic 78, 3) := by decide +kernel
theorem dX10_set_26 : decode cX10_set 26 = .ok (.goto 40, 3) := by decide +kernel
theorem dX10_set_29 : decode cX10_set 29 = .ok (.iload_n 1, 1) := by decide +kernel
theorem dX10_set_30 : decode cX10_set 30 = .ok (.iconst 2, 1) := by decide +kernel
theorem dX10_set_31 : decode cX10_set 31 = .ok (.if_icmp .ne 15, 3) := by decide +kernel
theorem dX10_set_34 : decode cX10_set 34 = .ok (.iload_n 2, 1) := by decide +kernel
theorem dX10_set_35 : decode cX10_set 35 = .ok (.bipush 32, 2) := by decide +kernel
theorem dX10_set_37 : decode cX10_set 37 = .ok (.sipush 200, 3) := by decide +kernel
theorem dX10_set_40 : decode cX10_set 40 = .ok (.invokestatic 78, 3) := by decide +kernel
theorem dX10_set_43 : decode cX10_set 43 = .ok (.goto 23, 3) := by decide +kernel
theorem dX10_set_46 : decode cX10_set 46 = .ok (.iload_n 1, 1) := by decide +kernel
theorem dX10_set_47 : decode cX10_set 47 = .ok (.iconst 3, 1) := by decide +kernel
theorem dX10_set_48 : decode cX10_set 48 = .ok (.if_icmp .ne 17, 3) := by decide +kernel
theorem dX10_set_51 : decode cX10_set 51 = .ok (.iload_n 2, 1) := by decide +kernel
theorem dX10_set_52 : decode cX10_set 52 = .ok (.iconst 1, 1) := by decide +kernel
theorem dX10_set_53 : decode cX10_set 53 = .ok (.bipush 8, 2) := by decide +kernel
theorem dX10_set_55 : decode cX10_set 55 = .ok (.invokestatic 78, 3) := by decide +kernel
theorem dX10_set_58 : decode cX10_set 58 = .ok (.ifCond .eq 7, 3) := by decide +kernel
theorem dX10_set_61 : decode cX10_set 61 = .ok (.iconst 1, 1) := by decide +kernel
theorem dX10_set_62 : decode cX10_set 62 = .ok (.goto 4, 3) := by decide +kernel
theorem dX10_set_65 : decode cX10_set 65 = .ok (.iconst 0, 1) := by decide +kernel
theorem dX10_set_66 : decode cX10_set 66 = .ok (.istore_n 3, 1) := by decide +kernel
theorem dX10_set_67 : decode cX10_set 67 = .ok (.iload_n 3, 1) := by decide +kernel
theorem dX10_set_68 : decode cX10_set 68 = .ok (.ifCond .ne 6, 3) := by decide +kernel
theorem dX10_set_71 : decode cX10_set 71 = .ok (.bipush (-2), 2) := by decide +kernel
theorem dX10_set_73 : decode cX10_set 73 = .ok (.ireturn, 1) := by decide +kernel
theorem dX10_set_74 : decode cX10_set 74 = .ok (.aload_n 0, 1) := by decide +kernel
theorem dX10_set_75 : decode cX10_set 75 = .ok (.getfield 82, 3) := by decide +kernel
theorem dX10_set_78 : decode cX10_set 78 = .ok (.ifCond .eq 6, 3) := by decide +kernel
theorem dX10_set_81 : decode cX10_set 81 = .ok (.bipush (-3), 2) := by decide +kernel
theorem dX10_set_83 : decode cX10_set 83 = .ok (.ireturn, 1) := by decide +kernel
theorem dX10_set_84 : decode cX10_set 84 = .ok (.iload_n 1, 1) := by decide +kernel
theorem dX10_set_85 : decode cX10_set 85 = .ok (.ifCond .ne 10, 3) := by decide +kernel
theorem dX10_set_88 : decode cX10_set 88 = .ok (.aload_n 0, 1) := by decide +kernel
theorem dX10_set_89 : decode cX10_set 89 = .ok (.getfield 13, 3) := by decide +kernel
theorem dX10_set_92 : decode cX10_set 92 = .ok (.goto 31, 3) := by decide +kernel
theorem dX10_set_95 : decode cX10_set 95 = .ok (.iload_n 1, 1) := by decide +kernel
theorem dX10_set_96 : decode cX10_set 96 = .ok (.iconst 1, 1) := by decide +kernel
theorem dX10_set_97 : decode cX10_set 97 = .ok (.if_icmp .ne 10, 3) := by decide +kernel
theorem dX10_set_100 : decode cX10_set 100 = .ok (.aload_n 0, 1) := by decide +kernel
theorem dX10_set_101 : decode cX10_set 101 = .ok (.getfield 17, 3) := by decide +kernel
theorem dX10_set_104 : decode cX10_set 104 = .ok (.goto 19, 3) := by decide +kernel
theorem dX10_set_107 : decode cX10_set 107 = .ok (.iload_n 1, 1) := by decide +kernel
theorem dX10_set_108 : decode cX10_set 108 = .ok (.iconst 2, 1) := by decide +kernel
theorem dX10_set_109 : decode cX10_set 109 = .ok (.if_icmp .ne 10, 3) := by decide +kernel
theorem dX10_set_112 : decode cX10_set 112 = .ok (.aload_n 0, 1) := by decide +kernel
theorem dX10_set_113 : decode cX10_set 113 = .ok (.getfield 20, 3) := by decide +kernel
theorem dX10_set_116 : decode cX10_set 116 = .ok (.goto 7, 3) := by decide +kernel
theorem dX10_set_119 : decode cX10_set 119 = .ok (.aload_n 0, 1) := by decide +kernel
theorem dX10_set_120 : decode cX10_set 120 = .ok (.getfield 23, 3) := by decide +kernel
theorem dX10_set_123 : decode cX10_set 123 = .ok (.istore 4, 2) := by decide +kernel
theorem dX10_set_125 : decode cX10_set 125 = .ok (.aload_n 0, 1) := by decide +kernel
theorem dX10_set_126 : decode cX10_set 126 = .ok (.iload_n 1, 1) := by decide +kernel
theorem dX10_set_127 : decode cX10_set 127 = .ok (.ifCond .ne 7, 3) := by decide +kernel
theorem dX10_set_130 : decode cX10_set 130 = .ok (.iload_n 2, 1) := by decide +kernel
theorem dX10_set_131 : decode cX10_set 131 = .ok (.goto 7, 3) := by decide +kernel
theorem dX10_set_134 : decode cX10_set 134 = .ok (.aload_n 0, 1) := by decide +kernel
theorem dX10_set_135 : decode cX10_set 135 = .ok (.getfield 13, 3) := by decide +kernel
theorem dX10_set_138 : decode cX10_set 138 = .ok (.putfield 13, 3) := by decide +kernel
theorem dX10_set_141 : decode cX10_set 141 = .ok (.aload_n 0, 1) := by decide +kernel
theorem dX10_set_142 : decode cX10_set 142 = .ok (.iload_n 1, 1) := by decide +kernel
theorem dX10_set_143 : decode cX10_set 143 = .ok (.iconst 1, 1) := by decide +kernel
theorem dX10_set_144 : decode cX10_set 144 = .ok (.if_icmp .ne 7, 3) := by decide +kernel
theorem dX10_set_147 : decode cX10_set 147 = .ok (.iload_n 2, 1) := by decide +kernel
theorem dX10_set_148 : decode cX10_set 148 = .ok (.goto 7, 3) := by decide +kernel
theorem dX10_set_151 : decode cX10_set 151 = .ok (.aload_n 0, 1) := by decide +kernel
theorem dX10_set_152 : decode cX10_set 152 = .ok (.getfield 17, 3) := by decide +kernel
theorem dX10_set_155 : decode cX10_set 155 = .ok (.putfield 17, 3) := by decide +kernel
theorem dX10_set_158 : decode cX10_set 158 = .ok (.aload_n 0, 1) := by decide +kernel
theorem dX10_set_159 : decode cX10_set 159 = .ok (.iload_n 1, 1) := by decide +kernel
theorem dX10_set_160 : decode cX10_set 160 = .ok (.iconst 2, 1) := by decide +kernel
theorem dX10_set_161 : decode cX10_set 161 = .ok (.if_icmp .ne 7, 3) := by decide +kernel
theorem dX10_set_164 : decode cX10_set 164 = .ok (.iload_n 2, 1) := by decide +kernel
theorem dX10_set_165 : decode cX10_set 165 = .ok (.goto 7, 3) := by decide +kernel
theorem dX10_set_168 : decode cX10_set 168 = .ok (.aload_n 0, 1) := by decide +kernel
theorem dX10_set_169 : decode cX10_set 169 = .ok (.getfield 20, 3) := by decide +kernel
theorem dX10_set_172 : decode cX10_set 172 = .ok (.putfield 20, 3) := by decide +kernel
theorem dX10_set_175 : decode cX10_set 175 = .ok (.aload_n 0, 1) := by decide +kernel
theorem dX10_set_176 : decode cX10_set 176 = .ok (.iload_n 1, 1) := by decide +kernel
theorem dX10_set_177 : decode cX10_set 177 = .ok (.iconst 3, 1) := by decide +kernel
theorem dX10_set_178 : decode cX10_set 178 = .ok (.if_icmp .ne 7, 3) := by decide +kernel
theorem dX10_set_181 : decode cX10_set 181 = .ok (.iload_n 2, 1) := by decide +kernel
theorem dX10_set_182 : decode cX10_set 182 = .ok (.goto 7, 3) := by decide +kernel
theorem dX10_set_185 : decode cX10_set 185 = .ok (.aload_n 0, 1) := by decide +kernel
theorem dX10_set_186 : decode cX10_set 186 = .ok (.getfield 23, 3) := by decide +kernel
theorem dX10_set_189 : decode cX10_set 189 = .ok (.putfield 23, 3) := by decide +kernel
theorem dX10_set_192 : decode cX10_set 192 = .ok (.aload_n 0, 1) := by decide +kernel
theorem dX10_set_193 : decode cX10_set 193 = .ok (.iconst 0, 1) := by decide +kernel
theorem dX10_set_194 : decode cX10_set 194 = .ok (.putfield 86, 3) := by decide +kernel
theorem dX10_set_197 : decode cX10_set 197 = .ok (.iload 4, 2) := by decide +kernel
theorem dX10_set_199 : decode cX10_set 199 = .ok (.ireturn, 1) := by decide +kernel
set_option maxRecDepth 20000 in
theorem ggX10_plant_X10_in : GoodIn wsX10_plant wsX10_in := goodIn_r _ [8] (by decide +kernel) (by decide +kernel)
set_option maxRecDepth 20000 in
theorem gX10_plant_X10_in : GoodIn wsX10_plant (va_wsS RX10 78 yX10_in wsX10_in) := goodIn_app (goodIn_of _ (by decide +kernel)) ggX10_plant_X10_in
theorem dX10_plant_0 : decode cX10_plant 0 = .ok (.iload_n 1, 1) := by decide +kernel
theorem dX10_plant_1 : decode cX10_plant 1 = .ok (.iconst 0, 1) := by decide +kernel
theorem dX10_plant_2 : decode cX10_plant 2 = .ok (.bipush 39, 2) := by decide +kernel
theorem dX10_plant_4 : decode cX10_plant 4 = .ok (.invokestatic 78, 3) := by decide +kernel
theorem dX10_plant_7 : decode cX10_plant 7 = .ok (.ifCond .eq 23, 3) := by decide +kernel
theorem dX10_plant_10 : decode cX10_plant 10 = .ok (.iload_n 2, 1) := by decide +kernel
theorem dX10_plant_11 : decode cX10_plant 11 = .ok (.iconst 0, 1) := by decide +kernel
theorem dX10_plant_12 : decode cX10_plant 12 = .ok (.bipush 31, 2) := by decide +kernel
theorem dX10_plant_14 : decode cX10_plant 14 = .ok (.invokestatic 78, 3) := by decide +kernel
theorem dX10_plant_17 : decode cX10_plant 17 = .ok (.ifCond .eq 13, 3) := by decide +kernel
theorem dX10_plant_20 : decode cX10_plant 20 = .ok (.iload_n 3, 1) := by decide +kernel
theorem dX10_plant_21 : decode cX10_plant 21 = .ok (.iconst 1, 1) := by decide +kernel
theorem dX10_plant_22 : decode cX10_plant 22 = .ok (.bipush 6, 2) := by decide +kernel
theorem dX10_plant_24 : decode cX10_plant 24 = .ok (.invokestatic 78, 3) := by decide +kernel
theorem dX10_plant_27 : decode cX10_plant 27 = .ok (.ifCond .ne 6, 3) := by decide +kernel
theorem dX10_plant_30 : decode cX10_plant 30 = .ok (.bipush (-2), 2) := by decide +kernel
theorem dX10_plant_32 : decode cX10_plant 32 = .ok (.ireturn, 1) := by decide +kernel
theorem dX10_plant_33 : decode cX10_plant 33 = .ok (.aload_n 0, 1) := by decide +kernel
theorem dX10_plant_34 : decode cX10_plant 34 = .ok (.getfield 82, 3) := by decide +kernel
theorem dX10_plant_37 : decode cX10_plant 37 = .ok (.ifCond .eq 6, 3) := by decide +kernel
theorem dX10_plant_40 : decode cX10_plant 40 = .ok (.bipush (-3), 2) := by decide +kernel
theorem dX10_plant_42 : decode cX10_plant 42 = .ok (.ireturn, 1) := by decide +kernel
theorem dX10_plant_43 : decode cX10_plant 43 = .ok (.aload_n 0, 1) := by decide +kernel
theorem dX10_plant_44 : decode cX10_plant 44 = .ok (.getfield 26, 3) := by decide +kernel
theorem dX10_plant_47 : decode cX10_plant 47 = .ok (.iload_n 1, 1) := by decide +kernel
theorem dX10_plant_48 : decode cX10_plant 48 = .ok (.iload_n 3, 1) := by decide +kernel
theorem dX10_plant_49 : decode cX10_plant 49 = .ok (.iastore, 1) := by decide +kernel
theorem dX10_plant_50 : decode cX10_plant 50 = .ok (.aload_n 0, 1) := by decide +kernel
theorem dX10_plant_51 : decode cX10_plant 51 = .ok (.getfield 29, 3) := by decide +kernel
theorem dX10_plant_54 : decode cX10_plant 54 = .ok (.iload_n 1, 1) := by decide +kernel
theorem dX10_plant_55 : decode cX10_plant 55 = .ok (.iload_n 2, 1) := by decide +kernel
theorem dX10_plant_56 : decode cX10_plant 56 = .ok (.iastore, 1) := by decide +kernel
theorem dX10_plant_57 : decode cX10_plant 57 = .ok (.aload_n 0, 1) := by decide +kernel
theorem dX10_plant_58 : decode cX10_plant 58 = .ok (.getfield 32, 3) := by decide +kernel
theorem dX10_plant_61 : decode cX10_plant 61 = .ok (.iload_n 1, 1) := by decide +kernel
theorem dX10_plant_62 : decode cX10_plant 62 = .ok (.iload 4, 2) := by decide +kernel
theorem dX10_plant_64 : decode cX10_plant 64 = .ok (.bastore, 1) := by decide +kernel
theorem dX10_plant_65 : decode cX10_plant 65 = .ok (.iconst 1, 1) := by decide +kernel
theorem dX10_plant_66 : decode cX10_plant 66 = .ok (.ireturn, 1) := by decide +kernel
theorem dX10_many_0 : decode cX10_many 0 = .ok (.aload_n 0, 1) := by decide +kernel
theorem dX10_many_1 : decode cX10_many 1 = .ok (.getfield 75, 3) := by decide +kernel
theorem dX10_many_4 : decode cX10_many 4 = .ok (.aload_n 0, 1) := by decide +kernel
theorem dX10_many_5 : decode cX10_many 5 = .ok (.getfield 13, 3) := by decide +kernel
theorem dX10_many_8 : decode cX10_many 8 = .ok (.iadd, 1) := by decide +kernel
theorem dX10_many_9 : decode cX10_many 9 = .ok (.iconst 1, 1) := by decide +kernel
theorem dX10_many_10 : decode cX10_many 10 = .ok (.isub, 1) := by decide +kernel
theorem dX10_many_11 : decode cX10_many 11 = .ok (.aload_n 0, 1) := by decide +kernel
theorem dX10_many_12 : decode cX10_many 12 = .ok (.getfield 13, 3) := by decide +kernel
theorem dX10_many_15 : decode cX10_many 15 = .ok (.idiv, 1) := by decide +kernel
theorem dX10_many_16 : decode cX10_many 16 = .ok (.ireturn, 1) := by decide +kernel
theorem dX10_lengthOf_0 : decode cX10_lengthOf 0 = .ok (.aload_n 0, 1) := by decide +kernel
theorem dX10_lengthOf_1 : decode cX10_lengthOf 1 = .ok (.getfield 75, 3) := by decide +kernel
theorem dX10_lengthOf_4 : decode cX10_lengthOf 4 = .ok (.iload_n 1, 1) := by decide +kernel
theorem dX10_lengthOf_5 : decode cX10_lengthOf 5 = .ok (.aload_n 0, 1) := by decide +kernel
theorem dX10_lengthOf_6 : decode cX10_lengthOf 6 = .ok (.getfield 13, 3) := by decide +kernel
theorem dX10_lengthOf_9 : decode cX10_lengthOf 9 = .ok (.imul, 1) := by decide +kernel
theorem dX10_lengthOf_10 : decode cX10_lengthOf 10 = .ok (.isub, 1) := by decide +kernel
theorem dX10_lengthOf_11 : decode cX10_lengthOf 11 = .ok (.istore_n 2, 1) := by decide +kernel
theorem dX10_lengthOf_12 : decode cX10_lengthOf 12 = .ok (.iload_n 2, 1) := by decide +kernel
theorem dX10_lengthOf_13 : decode cX10_lengthOf 13 = .ok (.aload_n 0, 1) := by decide +kernel
theorem dX10_lengthOf_14 : decode cX10_lengthOf 14 = .ok (.getfield 13, 3) := by decide +kernel
theorem dX10_lengthOf_17 : decode cX10_lengthOf 17 = .ok (.if_icmp .ge 7, 3) := by decide +kernel
theorem dX10_lengthOf_20 : decode cX10_lengthOf 20 = .ok (.iload_n 2, 1) := by decide +kernel
theorem dX10_lengthOf_21 : decode cX10_lengthOf 21 = .ok (.goto 7, 3) := by decide +kernel
theorem dX10_lengthOf_24 : decode cX10_lengthOf 24 = .ok (.aload_n 0, 1) := by decide +kernel
theorem dX10_lengthOf_25 : decode cX10_lengthOf 25 = .ok (.getfield 13, 3) := by decide +kernel
theorem dX10_lengthOf_28 : decode cX10_lengthOf 28 = .ok (.ireturn, 1) := by decide +kernel
theorem dX10_alike_0 : decode cX10_alike 0 = .ok (.iconst 0, 1) := by decide +kernel
theorem dX10_alike_1 : decode cX10_alike 1 = .ok (.istore 4, 2) := by decide +kernel
theorem dX10_alike_3 : decode cX10_alike 3 = .ok (.iload_n 1, 1) := by decide +kernel
theorem dX10_alike_4 : decode cX10_alike 4 = .ok (.iload 4, 2) := by decide +kernel
theorem dX10_alike_6 : decode cX10_alike 6 = .ok (.iadd, 1) := by decide +kernel
theorem dX10_alike_7 : decode cX10_alike 7 = .ok (.iload_n 2, 1) := by decide +kernel
theorem dX10_alike_8 : decode cX10_alike 8 = .ok (.if_icmp .ge 32, 3) := by decide +kernel
end
section
theorem dX10_alike_11 : decode cX10_alike 11 = .ok (.aload_n 0, 1) := by decide +kernel
theorem dX10_alike_12 : decode cX10_alike 12 = .ok (.getfield 7, 3) := by decide +kernel
theorem dX10_alike_15 : decode cX10_alike 15 = .ok (.iload_n 1, 1) := by decide +kernel
theorem dX10_alike_16 : decode cX10_alike 16 = .ok (.iload 4, 2) := by decide +kernel
theorem dX10_alike_18 : decode cX10_alike 18 = .ok (.iadd, 1) := by decide +kernel
theorem dX10_alike_19 : decode cX10_alike 19 = .ok (.iaload, 1) := by decide +kernel
theorem dX10_alike_20 : decode cX10_alike 20 = .ok (.aload_n 0, 1) := by decide +kernel
theorem dX10_alike_21 : decode cX10_alike 21 = .ok (.getfield 7, 3) := by decide +kernel
theorem dX10_alike_24 : decode cX10_alike 24 = .ok (.iload_n 1, 1) := by decide +kernel
theorem dX10_alike_25 : decode cX10_alike 25 = .ok (.iload 4, 2) := by decide +kernel
theorem dX10_alike_27 : decode cX10_alike 27 = .ok (.iadd, 1) := by decide +kernel
theorem dX10_alike_28 : decode cX10_alike 28 = .ok (.iload_n 3, 1) := by decide +kernel
theorem dX10_alike_29 : decode cX10_alike 29 = .ok (.isub, 1) := by decide +kernel
theorem dX10_alike_30 : decode cX10_alike 30 = .ok (.iaload, 1) := by decide +kernel
theorem dX10_alike_31 : decode cX10_alike 31 = .ok (.if_icmp .ne 9, 3) := by decide +kernel
theorem dX10_alike_34 : decode cX10_alike 34 = .ok (.iinc 4 1, 3) := by decide +kernel
theorem dX10_alike_37 : decode cX10_alike 37 = .ok (.goto (-34), 3) := by decide +kernel
theorem dX10_alike_40 : decode cX10_alike 40 = .ok (.iload 4, 2) := by decide +kernel
theorem dX10_alike_42 : decode cX10_alike 42 = .ok (.ireturn, 1) := by decide +kernel
theorem dX10_lay_0 : decode cX10_lay 0 = .ok (.aload_n 0, 1) := by decide +kernel
theorem dX10_lay_1 : decode cX10_lay 1 = .ok (.getfield 36, 3) := by decide +kernel
theorem dX10_lay_4 : decode cX10_lay 4 = .ok (.aload_n 0, 1) := by decide +kernel
theorem dX10_lay_5 : decode cX10_lay 5 = .ok (.getfield 89, 3) := by decide +kernel
theorem dX10_lay_8 : decode cX10_lay 8 = .ok (.iload_n 1, 1) := by decide +kernel
theorem dX10_lay_9 : decode cX10_lay 9 = .ok (.iastore, 1) := by decide +kernel
theorem dX10_lay_10 : decode cX10_lay 10 = .ok (.aload_n 0, 1) := by decide +kernel
theorem dX10_lay_11 : decode cX10_lay 11 = .ok (.dup, 1) := by decide +kernel
theorem dX10_lay_12 : decode cX10_lay 12 = .ok (.getfield 89, 3) := by decide +kernel
theorem dX10_lay_15 : decode cX10_lay 15 = .ok (.iconst 1, 1) := by decide +kernel
theorem dX10_lay_16 : decode cX10_lay 16 = .ok (.iadd, 1) := by decide +kernel
theorem dX10_lay_17 : decode cX10_lay 17 = .ok (.putfield 89, 3) := by decide +kernel
theorem dX10_lay_20 : decode cX10_lay 20 = .ok (.return_, 1) := by decide +kernel
set_option maxRecDepth 20000 in
theorem ggX10_packAll_X10_many : GoodIn wsX10_packAll wsX10_many := goodIn_r _ [7, 8, 9, 35, 36, 37, 38, 39, 40, 41, 42, 43, 44, 45, 46, 47, 48, 49, 50, 51, 52, 53, 54, 55, 56, 57, 58, 59, 60, 61, 62, 63, 64, 65, 66, 67, 68, 69, 70, 71, 72] (by decide +kernel) (by decide +kernel)
set_option maxRecDepth 20000 in
theorem gX10_packAll_X10_many : GoodIn wsX10_packAll (wsV RX10 92 RX10 yX10_many wsX10_many) := goodIn_app (goodIn_of _ (by decide +kernel)) ggX10_packAll_X10_many
set_option maxRecDepth 20000 in
theorem ggX10_packAll_X10_packOne : GoodIn wsX10_packAll wsX10_packOne := goodIn_r _ [13, 9, 14, 15, 16, 2, 17, 18, 19, 6, 20, 8, 21, 22, 23, 24, 25, 26, 27, 28, 29, 30, 31, 32, 33, 34, 35, 36, 37, 38, 39, 40, 41, 42, 43, 44, 45, 46, 47, 48, 49, 50, 51, 52, 53, 54, 55, 56, 57, 58, 59, 60, 61, 62, 63, 64, 65, 66, 67, 68, 69, 70, 71, 72] (by decide +kernel) (by decide +kernel)
set_option maxRecDepth 20000 in
theorem gX10_packAll_X10_packOne : GoodIn wsX10_packAll (wsV RX10 96 RX10 yX10_packOne wsX10_packOne) := goodIn_app (goodIn_of _ (by decide +kernel)) ggX10_packAll_X10_packOne
theorem dX10_packAll_0 : decode cX10_packAll 0 = .ok (.aload_n 0, 1) := by decide +kernel
theorem dX10_packAll_1 : decode cX10_packAll 1 = .ok (.getfield 86, 3) := by decide +kernel
theorem dX10_packAll_4 : decode cX10_packAll 4 = .ok (.ifCond .eq 4, 3) := by decide +kernel
theorem dX10_packAll_7 : decode cX10_packAll 7 = .ok (.return_, 1) := by decide +kernel
theorem dX10_packAll_8 : decode cX10_packAll 8 = .ok (.aload_n 0, 1) := by decide +kernel
theorem dX10_packAll_9 : decode cX10_packAll 9 = .ok (.iconst 1, 1) := by decide +kernel
theorem dX10_packAll_10 : decode cX10_packAll 10 = .ok (.putfield 86, 3) := by decide +kernel
theorem dX10_packAll_13 : decode cX10_packAll 13 = .ok (.aload_n 0, 1) := by decide +kernel
theorem dX10_packAll_14 : decode cX10_packAll 14 = .ok (.iconst 0, 1) := by decide +kernel
theorem dX10_packAll_15 : decode cX10_packAll 15 = .ok (.putfield 89, 3) := by decide +kernel
theorem dX10_packAll_18 : decode cX10_packAll 18 = .ok (.iconst 0, 1) := by decide +kernel
theorem dX10_packAll_19 : decode cX10_packAll 19 = .ok (.istore_n 1, 1) := by decide +kernel
theorem dX10_packAll_20 : decode cX10_packAll 20 = .ok (.iload_n 1, 1) := by decide +kernel
theorem dX10_packAll_21 : decode cX10_packAll 21 = .ok (.aload_n 0, 1) := by decide +kernel
theorem dX10_packAll_22 : decode cX10_packAll 22 = .ok (.invokevirtual 92, 3) := by decide +kernel
theorem dX10_packAll_25 : decode cX10_packAll 25 = .ok (.if_icmp .ge 14, 3) := by decide +kernel
theorem dX10_packAll_28 : decode cX10_packAll 28 = .ok (.aload_n 0, 1) := by decide +kernel
theorem dX10_packAll_29 : decode cX10_packAll 29 = .ok (.iload_n 1, 1) := by decide +kernel
theorem dX10_packAll_30 : decode cX10_packAll 30 = .ok (.invokevirtual 96, 3) := by decide +kernel
theorem dX10_packAll_33 : decode cX10_packAll 33 = .ok (.iinc 1 1, 3) := by decide +kernel
theorem dX10_packAll_36 : decode cX10_packAll 36 = .ok (.goto (-16), 3) := by decide +kernel
theorem dX10_packAll_39 : decode cX10_packAll 39 = .ok (.return_, 1) := by decide +kernel
set_option maxRecDepth 20000 in
theorem ggX10_packOne_X10_lengthOf : GoodIn wsX10_packOne wsX10_lengthOf := goodIn_r _ [10, 11, 1, 26, 27, 28, 29, 30, 31, 32, 33, 34, 35, 36, 37, 38, 39, 40, 41, 42, 43, 44, 45, 46, 47, 48, 49, 50, 51, 52, 53, 54, 55, 56, 57, 58, 59, 60, 61, 62, 63] (by decide +kernel) (by decide +kernel)
set_option maxRecDepth 20000 in
theorem gX10_packOne_X10_lengthOf : GoodIn wsX10_packOne (wsV RX10 100 RX10 yX10_lengthOf wsX10_lengthOf) := goodIn_app (goodIn_of _ (by decide +kernel)) ggX10_packOne_X10_lengthOf
set_option maxRecDepth 20000 in
theorem ggX10_packOne_X10_alike : GoodIn wsX10_packOne wsX10_alike := goodIn_r _ [15, 16, 26, 27, 28, 29, 30, 31, 32, 33, 34, 35, 36, 37, 38, 39, 40, 41, 42, 43, 44, 45, 46, 47, 48, 49, 50, 51, 52, 53, 54, 55, 56, 57, 58, 59, 60, 61, 62, 63] (by decide +kernel) (by decide +kernel)
set_option maxRecDepth 20000 in
theorem gX10_packOne_X10_alike : GoodIn wsX10_packOne (wsV RX10 104 RX10 yX10_alike wsX10_alike) := goodIn_app (goodIn_of _ (by decide +kernel)) ggX10_packOne_X10_alike
set_option maxRecDepth 20000 in
theorem ggX10_packOne_X10_plainTo : GoodIn wsX10_packOne wsX10_plainTo := goodIn_r _ [20, 16, 21, 22, 23, 9, 24, 25, 5, 26, 27, 28, 29, 30, 31, 32, 33, 34, 35, 36, 37, 38, 39, 40, 41, 42, 43, 44, 45, 46, 47, 48, 49, 50, 51, 52, 53, 54, 55, 56, 57, 58, 59, 60, 61, 62, 63] (by decide +kernel) (by decide +kernel)
set_option maxRecDepth 20000 in
theorem gX10_packOne_X10_plainTo : GoodIn wsX10_packOne (wsV RX10 108 RX10 yX10_plainTo wsX10_plainTo) := goodIn_app (goodIn_of _ (by decide +kernel)) ggX10_packOne_X10_plainTo
set_option maxRecDepth 20000 in
theorem ggX10_packOne_X10_lay : GoodIn wsX10_packOne wsX10_lay := goodIn_r _ [24, 25, 5, 26, 27, 28, 29, 30, 31, 32, 33, 34, 35, 36, 37, 38, 39, 40, 41, 42, 43, 44, 45, 46, 47, 48, 49, 50, 51, 52, 53, 54, 55, 56, 57, 58, 59, 60, 61, 62, 63] (by decide +kernel) (by decide +kernel)
set_option maxRecDepth 20000 in
theorem gX10_packOne_X10_lay : GoodIn wsX10_packOne (wsV RX10 112 RX10 yX10_lay wsX10_lay) := goodIn_app (goodIn_of _ (by decide +kernel)) ggX10_packOne_X10_lay
theorem dX10_packOne_0 : decode cX10_packOne 0 = .ok (.iload_n 1, 1) := by decide +kernel
theorem dX10_packOne_1 : decode cX10_packOne 1 = .ok (.aload_n 0, 1) := by decide +kernel
theorem dX10_packOne_2 : decode cX10_packOne 2 = .ok (.getfield 13, 3) := by decide +kernel
theorem dX10_packOne_5 : decode cX10_packOne 5 = .ok (.imul, 1) := by decide +kernel
theorem dX10_packOne_6 : decode cX10_packOne 6 = .ok (.istore_n 2, 1) := by decide +kernel
theorem dX10_packOne_7 : decode cX10_packOne 7 = .ok (.iload_n 2, 1) := by decide +kernel
theorem dX10_packOne_8 : decode cX10_packOne 8 = .ok (.aload_n 0, 1) := by decide +kernel
theorem dX10_packOne_9 : decode cX10_packOne 9 = .ok (.iload_n 1, 1) := by decide +kernel
theorem dX10_packOne_10 : decode cX10_packOne 10 = .ok (.invokevirtual 100, 3) := by decide +kernel
theorem dX10_packOne_13 : decode cX10_packOne 13 = .ok (.iadd, 1) := by decide +kernel
theorem dX10_packOne_14 : decode cX10_packOne 14 = .ok (.istore_n 3, 1) := by decide +kernel
theorem dX10_packOne_15 : decode cX10_packOne 15 = .ok (.iload_n 2, 1) := by decide +kernel
theorem dX10_packOne_16 : decode cX10_packOne 16 = .ok (.istore 4, 2) := by decide +kernel
theorem dX10_packOne_18 : decode cX10_packOne 18 = .ok (.aload_n 0, 1) := by decide +kernel
theorem dX10_packOne_19 : decode cX10_packOne 19 = .ok (.getfield 42, 3) := by decide +kernel
theorem dX10_packOne_22 : decode cX10_packOne 22 = .ok (.iload_n 1, 1) := by decide +kernel
theorem dX10_packOne_23 : decode cX10_packOne 23 = .ok (.iconst 0, 1) := by decide +kernel
theorem dX10_packOne_24 : decode cX10_packOne 24 = .ok (.iastore, 1) := by decide +kernel
theorem dX10_packOne_25 : decode cX10_packOne 25 = .ok (.iload_n 2, 1) := by decide +kernel
theorem dX10_packOne_26 : decode cX10_packOne 26 = .ok (.iload_n 3, 1) := by decide +kernel
theorem dX10_packOne_27 : decode cX10_packOne 27 = .ok (.if_icmp .ge 132, 3) := by decide +kernel
theorem dX10_packOne_30 : decode cX10_packOne 30 = .ok (.iconst 0, 1) := by decide +kernel
theorem dX10_packOne_31 : decode cX10_packOne 31 = .ok (.istore 5, 2) := by decide +kernel
theorem dX10_packOne_33 : decode cX10_packOne 33 = .ok (.iconst 0, 1) := by decide +kernel
theorem dX10_packOne_34 : decode cX10_packOne 34 = .ok (.istore 6, 2) := by decide +kernel
theorem dX10_packOne_36 : decode cX10_packOne 36 = .ok (.iconst 1, 1) := by decide +kernel
theorem dX10_packOne_37 : decode cX10_packOne 37 = .ok (.istore 7, 2) := by decide +kernel
theorem dX10_packOne_39 : decode cX10_packOne 39 = .ok (.iload 7, 2) := by decide +kernel
theorem dX10_packOne_41 : decode cX10_packOne 41 = .ok (.aload_n 0, 1) := by decide +kernel
theorem dX10_packOne_42 : decode cX10_packOne 42 = .ok (.getfield 17, 3) := by decide +kernel
theorem dX10_packOne_45 : decode cX10_packOne 45 = .ok (.if_icmp .gt 57, 3) := by decide +kernel
theorem dX10_packOne_48 : decode cX10_packOne 48 = .ok (.iload 7, 2) := by decide +kernel
theorem dX10_packOne_50 : decode cX10_packOne 50 = .ok (.iload_n 2, 1) := by decide +kernel
theorem dX10_packOne_51 : decode cX10_packOne 51 = .ok (.if_icmp .gt 51, 3) := by decide +kernel
theorem dX10_packOne_54 : decode cX10_packOne 54 = .ok (.aload_n 0, 1) := by decide +kernel
theorem dX10_packOne_55 : decode cX10_packOne 55 = .ok (.iload_n 2, 1) := by decide +kernel
theorem dX10_packOne_56 : decode cX10_packOne 56 = .ok (.iload_n 3, 1) := by decide +kernel
theorem dX10_packOne_57 : decode cX10_packOne 57 = .ok (.iload 7, 2) := by decide +kernel
theorem dX10_packOne_59 : decode cX10_packOne 59 = .ok (.invokevirtual 104, 3) := by decide +kernel
theorem dX10_packOne_62 : decode cX10_packOne 62 = .ok (.istore 8, 2) := by decide +kernel
theorem dX10_packOne_64 : decode cX10_packOne 64 = .ok (.iload 8, 2) := by decide +kernel
theorem dX10_packOne_66 : decode cX10_packOne 66 = .ok (.iload 5, 2) := by decide +kernel
theorem dX10_packOne_68 : decode cX10_packOne 68 = .ok (.if_icmp .le 8, 3) := by decide +kernel
theorem dX10_packOne_71 : decode cX10_packOne 71 = .ok (.iload 7, 2) := by decide +kernel
theorem dX10_packOne_73 : decode cX10_packOne 73 = .ok (.goto 5, 3) := by decide +kernel
theorem dX10_packOne_76 : decode cX10_packOne 76 = .ok (.iload 6, 2) := by decide +kernel
theorem dX10_packOne_78 : decode cX10_packOne 78 = .ok (.istore 6, 2) := by decide +kernel
theorem dX10_packOne_80 : decode cX10_packOne 80 = .ok (.iload 8, 2) := by decide +kernel
theorem dX10_packOne_82 : decode cX10_packOne 82 = .ok (.iload 5, 2) := by decide +kernel
theorem dX10_packOne_84 : decode cX10_packOne 84 = .ok (.if_icmp .le 8, 3) := by decide +kernel
theorem dX10_packOne_87 : decode cX10_packOne 87 = .ok (.iload 8, 2) := by decide +kernel
theorem dX10_packOne_89 : decode cX10_packOne 89 = .ok (.goto 5, 3) := by decide +kernel
theorem dX10_packOne_92 : decode cX10_packOne 92 = .ok (.iload 5, 2) := by decide +kernel
theorem dX10_packOne_94 : decode cX10_packOne 94 = .ok (.istore 5, 2) := by decide +kernel
theorem dX10_packOne_96 : decode cX10_packOne 96 = .ok (.iinc 7 1, 3) := by decide +kernel
theorem dX10_packOne_99 : decode cX10_packOne 99 = .ok (.goto (-60), 3) := by decide +kernel
theorem dX10_packOne_102 : decode cX10_packOne 102 = .ok (.aload_n 0, 1) := by decide +kernel
theorem dX10_packOne_103 : decode cX10_packOne 103 = .ok (.getfield 42, 3) := by decide +kernel
theorem dX10_packOne_106 : decode cX10_packOne 106 = .ok (.iload_n 1, 1) := by decide +kernel
theorem dX10_packOne_107 : decode cX10_packOne 107 = .ok (.dup2, 1) := by decide +kernel
theorem dX10_packOne_108 : decode cX10_packOne 108 = .ok (.iaload, 1) := by decide +kernel
theorem dX10_packOne_109 : decode cX10_packOne 109 = .ok (.iconst 1, 1) := by decide +kernel
theorem dX10_packOne_110 : decode cX10_packOne 110 = .ok (.iadd, 1) := by decide +kernel
theorem dX10_packOne_111 : decode cX10_packOne 111 = .ok (.iastore, 1) := by decide +kernel
theorem dX10_packOne_112 : decode cX10_packOne 112 = .ok (.iload 5, 2) := by decide +kernel
theorem dX10_packOne_114 : decode cX10_packOne 114 = .ok (.iconst 3, 1) := by decide +kernel
theorem dX10_packOne_115 : decode cX10_packOne 115 = .ok (.if_icmp .lt 38, 3) := by decide +kernel
theorem dX10_packOne_118 : decode cX10_packOne 118 = .ok (.aload_n 0, 1) := by decide +kernel
theorem dX10_packOne_119 : decode cX10_packOne 119 = .ok (.iload 4, 2) := by decide +kernel
theorem dX10_packOne_121 : decode cX10_packOne 121 = .ok (.iload_n 2, 1) := by decide +kernel
theorem dX10_packOne_122 : decode cX10_packOne 122 = .ok (.invokevirtual 108, 3) := by decide +kernel
theorem dX10_packOne_125 : decode cX10_packOne 125 = .ok (.aload_n 0, 1) := by decide +kernel
theorem dX10_packOne_126 : decode cX10_packOne 126 = .ok (.bipush 125, 2) := by decide +kernel
theorem dX10_packOne_128 : decode cX10_packOne 128 = .ok (.iload 5, 2) := by decide +kernel
theorem dX10_packOne_130 : decode cX10_packOne 130 = .ok (.iadd, 1) := by decide +kernel
theorem dX10_packOne_131 : decode cX10_packOne 131 = .ok (.invokevirtual 112, 3) := by decide +kernel
theorem dX10_packOne_134 : decode cX10_packOne 134 = .ok (.aload_n 0, 1) := by decide +kernel
theorem dX10_packOne_135 : decode cX10_packOne 135 = .ok (.iload 6, 2) := by decide +kernel
theorem dX10_packOne_137 : decode cX10_packOne 137 = .ok (.iconst 1, 1) := by decide +kernel
theorem dX10_packOne_138 : decode cX10_packOne 138 = .ok (.isub, 1) := by decide +kernel
theorem dX10_packOne_139 : decode cX10_packOne 139 = .ok (.invokevirtual 112, 3) := by decide +kernel
theorem dX10_packOne_142 : decode cX10_packOne 142 = .ok (.iload_n 2, 1) := by decide +kernel
theorem dX10_packOne_143 : decode cX10_packOne 143 = .ok (.iload 5, 2) := by decide +kernel
theorem dX10_packOne_145 : decode cX10_packOne 145 = .ok (.iadd, 1) := by decide +kernel
theorem dX10_packOne_146 : decode cX10_packOne 146 = .ok (.istore_n 2, 1) := by decide +kernel
theorem dX10_packOne_147 : decode cX10_packOne 147 = .ok (.iload_n 2, 1) := by decide +kernel
theorem dX10_packOne_148 : decode cX10_packOne 148 = .ok (.istore 4, 2) := by decide +kernel
theorem dX10_packOne_150 : decode cX10_packOne 150 = .ok (.goto 6, 3) := by decide +kernel
theorem dX10_packOne_153 : decode cX10_packOne 153 = .ok (.iinc 2 1, 3) := by decide +kernel
theorem dX10_packOne_156 : decode cX10_packOne 156 = .ok (.goto (-131), 3) := by decide +kernel
theorem dX10_packOne_159 : decode cX10_packOne 159 = .ok (.aload_n 0, 1) := by decide +kernel
theorem dX10_packOne_160 : decode cX10_packOne 160 = .ok (.iload 4, 2) := by decide +kernel
theorem dX10_packOne_162 : decode cX10_packOne 162 = .ok (.iload_n 3, 1) := by decide +kernel
theorem dX10_packOne_163 : decode cX10_packOne 163 = .ok (.invokevirtual 108, 3) := by decide +kernel
theorem dX10_packOne_166 : decode cX10_packOne 166 = .ok (.aload_n 0, 1) := by decide +kernel
theorem dX10_packOne_167 : decode cX10_packOne 167 = .ok (.iconst 0, 1) := by decide +kernel
theorem dX10_packOne_168 : decode cX10_packOne 168 = .ok (.invokevirtual 112, 3) := by decide +kernel
theorem dX10_packOne_171 : decode cX10_packOne 171 = .ok (.aload_n 0, 1) := by decide +kernel
theorem dX10_packOne_172 : decode cX10_packOne 172 = .ok (.getfield 39, 3) := by decide +kernel
theorem dX10_packOne_175 : decode cX10_packOne 175 = .ok (.iload_n 1, 1) := by decide +kernel
theorem dX10_packOne_176 : decode cX10_packOne 176 = .ok (.aload_n 0, 1) := by decide +kernel
theorem dX10_packOne_177 : decode cX10_packOne 177 = .ok (.getfield 89, 3) := by decide +kernel
theorem dX10_packOne_180 : decode cX10_packOne 180 = .ok (.iastore, 1) := by decide +kernel
theorem dX10_packOne_181 : decode cX10_packOne 181 = .ok (.return_, 1) := by decide +kernel
set_option maxRecDepth 20000 in
theorem ggX10_plainTo_X10_lay : GoodIn wsX10_plainTo wsX10_lay := goodIn_r _ [6, 7, 8, 9, 10, 11, 12, 13, 14, 15, 16, 17, 18, 19, 20, 21, 22, 23, 24, 25, 26, 27, 28, 29, 30, 31, 32, 33, 34, 35, 36, 37, 38, 39, 40, 41, 42, 43, 44, 45, 46] (by decide +kernel) (by decide +kernel)
set_option maxRecDepth 20000 in
theorem gX10_plainTo_X10_lay : GoodIn wsX10_plainTo (wsV RX10 112 RX10 yX10_lay wsX10_lay) := goodIn_app (goodIn_of _ (by decide +kernel)) ggX10_plainTo_X10_lay
theorem dX10_plainTo_0 : decode cX10_plainTo 0 = .ok (.iload_n 1, 1) := by decide +kernel
theorem dX10_plainTo_1 : decode cX10_plainTo 1 = .ok (.iload_n 2, 1) := by decide +kernel
theorem dX10_plainTo_2 : decode cX10_plainTo 2 = .ok (.if_icmp .ne 4, 3) := by decide +kernel
theorem dX10_plainTo_5 : decode cX10_plainTo 5 = .ok (.return_, 1) := by decide +kernel
theorem dX10_plainTo_6 : decode cX10_plainTo 6 = .ok (.aload_n 0, 1) := by decide +kernel
theorem dX10_plainTo_7 : decode cX10_plainTo 7 = .ok (.iload_n 2, 1) := by decide +kernel
theorem dX10_plainTo_8 : decode cX10_plainTo 8 = .ok (.iload_n 1, 1) := by decide +kernel
theorem dX10_plainTo_9 : decode cX10_plainTo 9 = .ok (.isub, 1) := by decide +kernel
theorem dX10_plainTo_10 : decode cX10_plainTo 10 = .ok (.invokevirtual 112, 3) := by decide +kernel
theorem dX10_plainTo_13 : decode cX10_plainTo 13 = .ok (.iload_n 1, 1) := by decide +kernel
theorem dX10_plainTo_14 : decode cX10_plainTo 14 = .ok (.istore_n 3, 1) := by decide +kernel
theorem dX10_plainTo_15 : decode cX10_plainTo 15 = .ok (.iload_n 3, 1) := by decide +kernel
theorem dX10_plainTo_16 : decode cX10_plainTo 16 = .ok (.iload_n 2, 1) := by decide +kernel
theorem dX10_plainTo_17 : decode cX10_plainTo 17 = .ok (.if_icmp .ge 19, 3) := by decide +kernel
theorem dX10_plainTo_20 : decode cX10_plainTo 20 = .ok (.aload_n 0, 1) := by decide +kernel
theorem dX10_plainTo_21 : decode cX10_plainTo 21 = .ok (.aload_n 0, 1) := by decide +kernel
theorem dX10_plainTo_22 : decode cX10_plainTo 22 = .ok (.getfield 7, 3) := by decide +kernel
theorem dX10_plainTo_25 : decode cX10_plainTo 25 = .ok (.iload_n 3, 1) := by decide +kernel
theorem dX10_plainTo_26 : decode cX10_plainTo 26 = .ok (.iaload, 1) := by decide +kernel
theorem dX10_plainTo_27 : decode cX10_plainTo 27 = .ok (.invokevirtual 112, 3) := by decide +kernel
theorem dX10_plainTo_30 : decode cX10_plainTo 30 = .ok (.iinc 3 1, 3) := by decide +kernel
theorem dX10_plainTo_33 : decode cX10_plainTo 33 = .ok (.goto (-18), 3) := by decide +kernel
theorem dX10_plainTo_36 : decode cX10_plainTo 36 = .ok (.return_, 1) := by decide +kernel
set_option maxRecDepth 20000 in
theorem ggX10_plain_X10_packAll : GoodIn wsX10_plain wsX10_packAll := goodIn_r _ [7, 8, 1, 9, 10, 11, 6, 12, 13, 14, 15, 16, 17, 18, 19, 20, 21, 22, 23, 24, 25, 26, 27, 28, 29, 30, 31, 32, 33, 34, 35, 36, 37, 38, 2, 42, 43, 44, 45, 46, 47, 48, 49, 50, 51, 52, 53, 54, 55, 56, 57, 58, 59, 60, 61, 62, 63, 64, 65, 66, 67, 68, 69, 70, 71, 72, 73, 74, 75, 76, 77, 78, 79] (by decide +kernel) (by decide +kernel)
set_option maxRecDepth 20000 in
theorem gX10_plain_X10_packAll : GoodIn wsX10_plain (wsV RX10 115 RX10 yX10_packAll wsX10_packAll) := goodIn_app (goodIn_of _ (by decide +kernel)) ggX10_plain_X10_packAll
set_option maxRecDepth 20000 in
theorem ggX10_plain_X10_in : GoodIn wsX10_plain wsX10_in := goodIn_r _ [41] (by decide +kernel) (by decide +kernel)
set_option maxRecDepth 20000 in
theorem gX10_plain_X10_in : GoodIn wsX10_plain (va_wsS RX10 78 yX10_in wsX10_in) := goodIn_app (goodIn_of _ (by decide +kernel)) ggX10_plain_X10_in
theorem dX10_plain_0 : decode cX10_plain 0 = .ok (.aload_n 0, 1) := by decide +kernel
theorem dX10_plain_1 : decode cX10_plain 1 = .ok (.invokevirtual 115, 3) := by decide +kernel
theorem dX10_plain_4 : decode cX10_plain 4 = .ok (.iload_n 1, 1) := by decide +kernel
theorem dX10_plain_5 : decode cX10_plain 5 = .ok (.iconst 0, 1) := by decide +kernel
theorem dX10_plain_6 : decode cX10_plain 6 = .ok (.aload_n 0, 1) := by decide +kernel
theorem dX10_plain_7 : decode cX10_plain 7 = .ok (.getfield 89, 3) := by decide +kernel
theorem dX10_plain_10 : decode cX10_plain 10 = .ok (.iconst 1, 1) := by decide +kernel
theorem dX10_plain_11 : decode cX10_plain 11 = .ok (.isub, 1) := by decide +kernel
theorem dX10_plain_12 : decode cX10_plain 12 = .ok (.invokestatic 78, 3) := by decide +kernel
theorem dX10_plain_15 : decode cX10_plain 15 = .ok (.ifCond .eq 12, 3) := by decide +kernel
theorem dX10_plain_18 : decode cX10_plain 18 = .ok (.aload_n 0, 1) := by decide +kernel
theorem dX10_plain_19 : decode cX10_plain 19 = .ok (.getfield 36, 3) := by decide +kernel
theorem dX10_plain_22 : decode cX10_plain 22 = .ok (.iload_n 1, 1) := by decide +kernel
theorem dX10_plain_23 : decode cX10_plain 23 = .ok (.iaload, 1) := by decide +kernel
theorem dX10_plain_24 : decode cX10_plain 24 = .ok (.goto 4, 3) := by decide +kernel
theorem dX10_plain_27 : decode cX10_plain 27 = .ok (.iconst (-1), 1) := by decide +kernel
theorem dX10_plain_28 : decode cX10_plain 28 = .ok (.ireturn, 1) := by decide +kernel
set_option maxRecDepth 20000 in
theorem ggX10_begin_X10_in : GoodIn wsX10_begin wsX10_in := goodIn_r _ [27] (by decide +kernel) (by decide +kernel)
set_option maxRecDepth 20000 in
theorem gX10_begin_X10_in : GoodIn wsX10_begin (va_wsS RX10 78 yX10_in wsX10_in) := goodIn_app (goodIn_of _ (by decide +kernel)) ggX10_begin_X10_in
set_option maxRecDepth 20000 in
theorem ggX10_begin_X10_packAll : GoodIn wsX10_begin wsX10_packAll := goodIn_r _ [31, 32, 33, 34, 35, 36, 26, 37, 38, 39, 40, 41, 42, 43, 44, 45, 46, 47, 48, 49, 50, 51, 52, 53, 54, 55, 56, 57, 58, 59, 60, 61, 62, 63, 64, 65, 66, 67, 68, 69, 70, 71, 72, 73, 74, 75, 76, 77, 78, 79, 80, 81, 82, 83, 84, 85, 86, 87, 88, 89, 90, 91, 92, 93, 94, 95, 96, 97, 98, 99, 100, 101, 102] (by decide +kernel) (by decide +kernel)
set_option maxRecDepth 20000 in
theorem gX10_begin_X10_packAll : GoodIn wsX10_begin (wsV RX10 115 RX10 yX10_packAll wsX10_packAll) := goodIn_app (goodIn_of _ (by decide +kernel)) ggX10_begin_X10_packAll
set_option maxRecDepth 20000 in
theorem ggX10_begin_X10_many : GoodIn wsX10_begin wsX10_many := goodIn_r _ [37, 38, 39, 65, 66, 67, 68, 69, 70, 71, 72, 73, 74, 75, 76, 77, 78, 79, 80, 81, 82, 83, 84, 85, 86, 87, 88, 89, 90, 91, 92, 93, 94, 95, 96, 97, 98, 99, 100, 101, 102] (by decide +kernel) (by decide +kernel)
set_option maxRecDepth 20000 in
theorem gX10_begin_X10_many : GoodIn wsX10_begin (wsV RX10 92 RX10 yX10_many wsX10_many) := goodIn_app (goodIn_of _ (by decide +kernel)) ggX10_begin_X10_many
theorem dX10_begin_0 : decode cX10_begin 0 = .ok (.iload_n 1, 1) := by decide +kernel
theorem dX10_begin_1 : decode cX10_begin 1 = .ok (.iconst 1, 1) := by decide +kernel
theorem dX10_begin_2 : decode cX10_begin 2 = .ok (.bipush 6, 2) := by decide +kernel
theorem dX10_begin_4 : decode cX10_begin 4 = .ok (.invokestatic 78, 3) := by decide +kernel
theorem dX10_begin_7 : decode cX10_begin 7 = .ok (.ifCond .ne 6, 3) := by decide +kernel
theorem dX10_begin_10 : decode cX10_begin 10 = .ok (.bipush (-2), 2) := by decide +kernel
theorem dX10_begin_12 : decode cX10_begin 12 = .ok (.ireturn, 1) := by decide +kernel
theorem dX10_begin_13 : decode cX10_begin 13 = .ok (.aload_n 0, 1) := by decide +kernel
theorem dX10_begin_14 : decode cX10_begin 14 = .ok (.getfield 82, 3) := by decide +kernel
theorem dX10_begin_17 : decode cX10_begin 17 = .ok (.ifCond .eq 6, 3) := by decide +kernel
theorem dX10_begin_20 : decode cX10_begin 20 = .ok (.bipush (-3), 2) := by decide +kernel
theorem dX10_begin_22 : decode cX10_begin 22 = .ok (.ireturn, 1) := by decide +kernel
theorem dX10_begin_23 : decode cX10_begin 23 = .ok (.aload_n 0, 1) := by decide +kernel
theorem dX10_begin_24 : decode cX10_begin 24 = .ok (.invokevirtual 115, 3) := by decide +kernel
theorem dX10_begin_27 : decode cX10_begin 27 = .ok (.aload_n 0, 1) := by decide +kernel
theorem dX10_begin_28 : decode cX10_begin 28 = .ok (.iconst 1, 1) := by decide +kernel
theorem dX10_begin_29 : decode cX10_begin 29 = .ok (.putfield 82, 3) := by decide +kernel
theorem dX10_begin_32 : decode cX10_begin 32 = .ok (.aload_n 0, 1) := by decide +kernel
theorem dX10_begin_33 : decode cX10_begin 33 = .ok (.iload_n 1, 1) := by decide +kernel
theorem dX10_begin_34 : decode cX10_begin 34 = .ok (.putfield 118, 3) := by decide +kernel
theorem dX10_begin_37 : decode cX10_begin 37 = .ok (.aload_n 0, 1) := by decide +kernel
theorem dX10_begin_38 : decode cX10_begin 38 = .ok (.aload_n 0, 1) := by decide +kernel
theorem dX10_begin_39 : decode cX10_begin 39 = .ok (.invokevirtual 92, 3) := by decide +kernel
theorem dX10_begin_42 : decode cX10_begin 42 = .ok (.putfield 121, 3) := by decide +kernel
theorem dX10_begin_45 : decode cX10_begin 45 = .ok (.iconst 0, 1) := by decide +kernel
theorem dX10_begin_46 : decode cX10_begin 46 = .ok (.istore_n 2, 1) := by decide +kernel
theorem dX10_begin_47 : decode cX10_begin 47 = .ok (.iload_n 2, 1) := by decide +kernel
theorem dX10_begin_48 : decode cX10_begin 48 = .ok (.bipush 6, 2) := by decide +kernel
theorem dX10_begin_50 : decode cX10_begin 50 = .ok (.if_icmp .ge 51, 3) := by decide +kernel
theorem dX10_begin_53 : decode cX10_begin 53 = .ok (.aload_n 0, 1) := by decide +kernel
theorem dX10_begin_54 : decode cX10_begin 54 = .ok (.getfield 45, 3) := by decide +kernel
theorem dX10_begin_57 : decode cX10_begin 57 = .ok (.iload_n 2, 1) := by decide +kernel
theorem dX10_begin_58 : decode cX10_begin 58 = .ok (.iconst 0, 1) := by decide +kernel
theorem dX10_begin_59 : decode cX10_begin 59 = .ok (.iastore, 1) := by decide +kernel
theorem dX10_begin_60 : decode cX10_begin 60 = .ok (.aload_n 0, 1) := by decide +kernel
theorem dX10_begin_61 : decode cX10_begin 61 = .ok (.getfield 48, 3) := by decide +kernel
theorem dX10_begin_64 : decode cX10_begin 64 = .ok (.iload_n 2, 1) := by decide +kernel
theorem dX10_begin_65 : decode cX10_begin 65 = .ok (.iconst (-1), 1) := by decide +kernel
theorem dX10_begin_66 : decode cX10_begin 66 = .ok (.iastore, 1) := by decide +kernel
theorem dX10_begin_67 : decode cX10_begin 67 = .ok (.aload_n 0, 1) := by decide +kernel
theorem dX10_begin_68 : decode cX10_begin 68 = .ok (.getfield 51, 3) := by decide +kernel
theorem dX10_begin_71 : decode cX10_begin 71 = .ok (.iload_n 2, 1) := by decide +kernel
theorem dX10_begin_72 : decode cX10_begin 72 = .ok (.iconst 0, 1) := by decide +kernel
theorem dX10_begin_73 : decode cX10_begin 73 = .ok (.iastore, 1) := by decide +kernel
theorem dX10_begin_74 : decode cX10_begin 74 = .ok (.aload_n 0, 1) := by decide +kernel
theorem dX10_begin_75 : decode cX10_begin 75 = .ok (.getfield 54, 3) := by decide +kernel
theorem dX10_begin_78 : decode cX10_begin 78 = .ok (.iload_n 2, 1) := by decide +kernel
theorem dX10_begin_79 : decode cX10_begin 79 = .ok (.iconst 0, 1) := by decide +kernel
theorem dX10_begin_80 : decode cX10_begin 80 = .ok (.iastore, 1) := by decide +kernel
theorem dX10_begin_81 : decode cX10_begin 81 = .ok (.aload_n 0, 1) := by decide +kernel
theorem dX10_begin_82 : decode cX10_begin 82 = .ok (.getfield 57, 3) := by decide +kernel
theorem dX10_begin_85 : decode cX10_begin 85 = .ok (.iload_n 2, 1) := by decide +kernel
theorem dX10_begin_86 : decode cX10_begin 86 = .ok (.iconst 0, 1) := by decide +kernel
theorem dX10_begin_87 : decode cX10_begin 87 = .ok (.iastore, 1) := by decide +kernel
theorem dX10_begin_88 : decode cX10_begin 88 = .ok (.aload_n 0, 1) := by decide +kernel
theorem dX10_begin_89 : decode cX10_begin 89 = .ok (.getfield 60, 3) := by decide +kernel
theorem dX10_begin_92 : decode cX10_begin 92 = .ok (.iload_n 2, 1) := by decide +kernel
theorem dX10_begin_93 : decode cX10_begin 93 = .ok (.iconst 0, 1) := by decide +kernel
theorem dX10_begin_94 : decode cX10_begin 94 = .ok (.bastore, 1) := by decide +kernel
theorem dX10_begin_95 : decode cX10_begin 95 = .ok (.iinc 2 1, 3) := by decide +kernel
theorem dX10_begin_98 : decode cX10_begin 98 = .ok (.goto (-51), 3) := by decide +kernel
theorem dX10_begin_101 : decode cX10_begin 101 = .ok (.iconst 0, 1) := by decide +kernel
theorem dX10_begin_102 : decode cX10_begin 102 = .ok (.istore_n 2, 1) := by decide +kernel
theorem dX10_begin_103 : decode cX10_begin 103 = .ok (.iload_n 2, 1) := by decide +kernel
theorem dX10_begin_104 : decode cX10_begin 104 = .ok (.bipush 40, 2) := by decide +kernel
theorem dX10_begin_106 : decode cX10_begin 106 = .ok (.if_icmp .ge 23, 3) := by decide +kernel
theorem dX10_begin_109 : decode cX10_begin 109 = .ok (.aload_n 0, 1) := by decide +kernel
theorem dX10_begin_110 : decode cX10_begin 110 = .ok (.getfield 63, 3) := by decide +kernel
theorem dX10_begin_113 : decode cX10_begin 113 = .ok (.iload_n 2, 1) := by decide +kernel
theorem dX10_begin_114 : decode cX10_begin 114 = .ok (.iconst 0, 1) := by decide +kernel
theorem dX10_begin_115 : decode cX10_begin 115 = .ok (.bastore, 1) := by decide +kernel
theorem dX10_begin_116 : decode cX10_begin 116 = .ok (.aload_n 0, 1) := by decide +kernel
theorem dX10_begin_117 : decode cX10_begin 117 = .ok (.getfield 69, 3) := by decide +kernel
theorem dX10_begin_120 : decode cX10_begin 120 = .ok (.iload_n 2, 1) := by decide +kernel
theorem dX10_begin_121 : decode cX10_begin 121 = .ok (.iconst 0, 1) := by decide +kernel
theorem dX10_begin_122 : decode cX10_begin 122 = .ok (.bastore, 1) := by decide +kernel
theorem dX10_begin_123 : decode cX10_begin 123 = .ok (.iinc 2 1, 3) := by decide +kernel
theorem dX10_begin_126 : decode cX10_begin 126 = .ok (.goto (-23), 3) := by decide +kernel
theorem dX10_begin_129 : decode cX10_begin 129 = .ok (.aload_n 0, 1) := by decide +kernel
theorem dX10_begin_130 : decode cX10_begin 130 = .ok (.iconst (-1), 1) := by decide +kernel
theorem dX10_begin_131 : decode cX10_begin 131 = .ok (.putfield 124, 3) := by decide +kernel
theorem dX10_begin_134 : decode cX10_begin 134 = .ok (.aload_n 0, 1) := by decide +kernel
theorem dX10_begin_135 : decode cX10_begin 135 = .ok (.iconst 0, 1) := by decide +kernel
theorem dX10_begin_136 : decode cX10_begin 136 = .ok (.putfield 127, 3) := by decide +kernel
theorem dX10_begin_139 : decode cX10_begin 139 = .ok (.aload_n 0, 1) := by decide +kernel
theorem dX10_begin_140 : decode cX10_begin 140 = .ok (.iconst 0, 1) := by decide +kernel
theorem dX10_begin_141 : decode cX10_begin 141 = .ok (.putfield 130, 3) := by decide +kernel
theorem dX10_begin_144 : decode cX10_begin 144 = .ok (.aload_n 0, 1) := by decide +kernel
theorem dX10_begin_145 : decode cX10_begin 145 = .ok (.iconst 0, 1) := by decide +kernel
theorem dX10_begin_146 : decode cX10_begin 146 = .ok (.putfield 133, 3) := by decide +kernel
theorem dX10_begin_149 : decode cX10_begin 149 = .ok (.aload_n 0, 1) := by decide +kernel
theorem dX10_begin_150 : decode cX10_begin 150 = .ok (.iconst 0, 1) := by decide +kernel
theorem dX10_begin_151 : decode cX10_begin 151 = .ok (.putfield 136, 3) := by decide +kernel
theorem dX10_begin_154 : decode cX10_begin 154 = .ok (.aload_n 0, 1) := by decide +kernel
theorem dX10_begin_155 : decode cX10_begin 155 = .ok (.aload_n 0, 1) := by decide +kernel
theorem dX10_begin_156 : decode cX10_begin 156 = .ok (.getfield 20, 3) := by decide +kernel
theorem dX10_begin_159 : decode cX10_begin 159 = .ok (.putfield 139, 3) := by decide +kernel
theorem dX10_begin_162 : decode cX10_begin 162 = .ok (.aload_n 0, 1) := by decide +kernel
theorem dX10_begin_163 : decode cX10_begin 163 = .ok (.iconst 0, 1) := by decide +kernel
theorem dX10_begin_164 : decode cX10_begin 164 = .ok (.putfield 142, 3) := by decide +kernel
theorem dX10_begin_167 : decode cX10_begin 167 = .ok (.aload_n 0, 1) := by decide +kernel
theorem dX10_begin_168 : decode cX10_begin 168 = .ok (.iconst (-1), 1) := by decide +kernel
theorem dX10_begin_169 : decode cX10_begin 169 = .ok (.putfield 145, 3) := by decide +kernel
theorem dX10_begin_172 : decode cX10_begin 172 = .ok (.aload_n 0, 1) := by decide +kernel
theorem dX10_begin_173 : decode cX10_begin 173 = .ok (.iconst 0, 1) := by decide +kernel
theorem dX10_begin_174 : decode cX10_begin 174 = .ok (.putfield 148, 3) := by decide +kernel
theorem dX10_begin_177 : decode cX10_begin 177 = .ok (.aload_n 0, 1) := by decide +kernel
theorem dX10_begin_178 : decode cX10_begin 178 = .ok (.iconst 0, 1) := by decide +kernel
theorem dX10_begin_179 : decode cX10_begin 179 = .ok (.putfield 151, 3) := by decide +kernel
theorem dX10_begin_182 : decode cX10_begin 182 = .ok (.aload_n 0, 1) := by decide +kernel
theorem dX10_begin_183 : decode cX10_begin 183 = .ok (.iconst 0, 1) := by decide +kernel
theorem dX10_begin_184 : decode cX10_begin 184 = .ok (.putfield 154, 3) := by decide +kernel
theorem dX10_begin_187 : decode cX10_begin 187 = .ok (.aload_n 0, 1) := by decide +kernel
theorem dX10_begin_188 : decode cX10_begin 188 = .ok (.getfield 121, 3) := by decide +kernel
theorem dX10_begin_191 : decode cX10_begin 191 = .ok (.ireturn, 1) := by decide +kernel
theorem dX10_isStopped_0 : decode cX10_isStopped 0 = .ok (.aload_n 0, 1) := by decide +kernel
theorem dX10_isStopped_1 : decode cX10_isStopped 1 = .ok (.getfield 148, 3) := by decide +kernel
theorem dX10_isStopped_4 : decode cX10_isStopped 4 = .ok (.ifCond .le 7, 3) := by decide +kernel
theorem dX10_isStopped_7 : decode cX10_isStopped 7 = .ok (.iconst 1, 1) := by decide +kernel
theorem dX10_isStopped_8 : decode cX10_isStopped 8 = .ok (.goto 4, 3) := by decide +kernel
theorem dX10_isStopped_11 : decode cX10_isStopped 11 = .ok (.iconst 0, 1) := by decide +kernel
theorem dX10_isStopped_12 : decode cX10_isStopped 12 = .ok (.ireturn, 1) := by decide +kernel
theorem dX10_ends_0 : decode cX10_ends 0 = .ok (.aload_n 0, 1) := by decide +kernel
theorem dX10_ends_1 : decode cX10_ends 1 = .ok (.getfield 45, 3) := by decide +kernel
theorem dX10_ends_4 : decode cX10_ends 4 = .ok (.iload_n 1, 1) := by decide +kernel
theorem dX10_ends_5 : decode cX10_ends 5 = .ok (.iconst 4, 1) := by decide +kernel
theorem dX10_ends_6 : decode cX10_ends 6 = .ok (.iastore, 1) := by decide +kernel
theorem dX10_ends_7 : decode cX10_ends 7 = .ok (.aload_n 0, 1) := by decide +kernel
theorem dX10_ends_8 : decode cX10_ends 8 = .ok (.getfield 48, 3) := by decide +kernel
theorem dX10_ends_11 : decode cX10_ends 11 = .ok (.iload_n 1, 1) := by decide +kernel
theorem dX10_ends_12 : decode cX10_ends 12 = .ok (.iconst (-1), 1) := by decide +kernel
theorem dX10_ends_13 : decode cX10_ends 13 = .ok (.iastore, 1) := by decide +kernel
theorem dX10_ends_14 : decode cX10_ends 14 = .ok (.aload_n 0, 1) := by decide +kernel
theorem dX10_ends_15 : decode cX10_ends 15 = .ok (.getfield 57, 3) := by decide +kernel
theorem dX10_ends_18 : decode cX10_ends 18 = .ok (.iload_n 1, 1) := by decide +kernel
theorem dX10_ends_19 : decode cX10_ends 19 = .ok (.dup2, 1) := by decide +kernel
theorem dX10_ends_20 : decode cX10_ends 20 = .ok (.iaload, 1) := by decide +kernel
theorem dX10_ends_21 : decode cX10_ends 21 = .ok (.iconst 1, 1) := by decide +kernel
theorem dX10_ends_22 : decode cX10_ends 22 = .ok (.iadd, 1) := by decide +kernel
theorem dX10_ends_23 : decode cX10_ends 23 = .ok (.iastore, 1) := by decide +kernel
theorem dX10_ends_24 : decode cX10_ends 24 = .ok (.return_, 1) := by decide +kernel
set_option maxRecDepth 20000 in
theorem ggX10_works_X10_lengthOf : GoodIn wsX10_works wsX10_lengthOf := goodIn_r _ [9, 10, 11, 12, 13, 14, 15, 16, 17, 18, 19, 20, 21, 22, 23, 24, 25, 26, 27, 28, 29, 30, 31, 32, 33, 34, 35, 36, 37, 38, 39, 40, 41, 42, 43, 44, 45, 46, 47, 48, 49] (by decide +kernel) (by decide +kernel)
set_option maxRecDepth 20000 in
theorem gX10_works_X10_lengthOf : GoodIn wsX10_works (wsV RX10 100 RX10 yX10_lengthOf wsX10_lengthOf) := goodIn_app (goodIn_of _ (by decide +kernel)) ggX10_works_X10_lengthOf
theorem dX10_works_0 : decode cX10_works 0 = .ok (.aload_n 0, 1) := by decide +kernel
theorem dX10_works_1 : decode cX10_works 1 = .ok (.dup, 1) := by decide +kernel
theorem dX10_works_2 : decode cX10_works 2 = .ok (.getfield 139, 3) := by decide +kernel
theorem dX10_works_5 : decode cX10_works 5 = .ok (.aload_n 0, 1) := by decide +kernel
theorem dX10_works_6 : decode cX10_works 6 = .ok (.aload_n 0, 1) := by decide +kernel
theorem dX10_works_7 : decode cX10_works 7 = .ok (.getfield 48, 3) := by decide +kernel
theorem dX10_works_10 : decode cX10_works 10 = .ok (.iload_n 1, 1) := by decide +kernel
theorem dX10_works_11 : decode cX10_works 11 = .ok (.iaload, 1) := by decide +kernel
theorem dX10_works_12 : decode cX10_works 12 = .ok (.invokevirtual 100, 3) := by decide +kernel
theorem dX10_works_15 : decode cX10_works 15 = .ok (.isub, 1) := by decide +kernel
theorem dX10_works_16 : decode cX10_works 16 = .ok (.putfield 139, 3) := by decide +kernel
theorem dX10_works_19 : decode cX10_works 19 = .ok (.aload_n 0, 1) := by decide +kernel
theorem dX10_works_20 : decode cX10_works 20 = .ok (.getfield 45, 3) := by decide +kernel
theorem dX10_works_23 : decode cX10_works 23 = .ok (.iload_n 1, 1) := by decide +kernel
theorem dX10_works_24 : decode cX10_works 24 = .ok (.iconst 2, 1) := by decide +kernel
theorem dX10_works_25 : decode cX10_works 25 = .ok (.iastore, 1) := by decide +kernel
theorem dX10_works_26 : decode cX10_works 26 = .ok (.aload_n 0, 1) := by decide +kernel
theorem dX10_works_27 : decode cX10_works 27 = .ok (.getfield 51, 3) := by decide +kernel
theorem dX10_works_30 : decode cX10_works 30 = .ok (.iload_n 1, 1) := by decide +kernel
theorem dX10_works_31 : decode cX10_works 31 = .ok (.iconst 0, 1) := by decide +kernel
theorem dX10_works_32 : decode cX10_works 32 = .ok (.iastore, 1) := by decide +kernel
theorem dX10_works_33 : decode cX10_works 33 = .ok (.return_, 1) := by decide +kernel
set_option maxRecDepth 20000 in
theorem ggX10_takes_X10_lengthOf : GoodIn wsX10_takes wsX10_lengthOf := goodIn_r _ [10, 11, 12, 18, 19, 20, 21, 22, 23, 24, 25, 26, 27, 28, 29, 30, 31, 32, 33, 34, 35, 36, 37, 38, 39, 40, 41, 42, 43, 44, 45, 46, 47, 48, 49, 50, 51, 52, 53, 54, 55] (by decide +kernel) (by decide +kernel)
set_option maxRecDepth 20000 in
theorem gX10_takes_X10_lengthOf : GoodIn wsX10_takes (wsV RX10 100 RX10 yX10_lengthOf wsX10_lengthOf) := goodIn_app (goodIn_of _ (by decide +kernel)) ggX10_takes_X10_lengthOf
set_option maxRecDepth 20000 in
theorem ggX10_takes_X10_works : GoodIn wsX10_takes wsX10_works := goodIn_r _ [16, 3, 1, 4, 17, 6, 7, 8, 9, 10, 11, 12, 18, 19, 20, 21, 22, 23, 24, 25, 26, 27, 28, 29, 30, 31, 32, 33, 34, 35, 36, 37, 38, 39, 40, 41, 42, 43, 44, 45, 46, 47, 48, 49, 50, 51, 52, 53, 54, 55] (by decide +kernel) (by decide +kernel)
set_option maxRecDepth 20000 in
theorem gX10_takes_X10_works : GoodIn wsX10_takes (wsV RX10 157 RX10 yX10_works wsX10_works) := goodIn_app (goodIn_of _ (by decide +kernel)) ggX10_takes_X10_works
theorem dX10_takes_0 : decode cX10_takes 0 = .ok (.aload_n 0, 1) := by decide +kernel
theorem dX10_takes_1 : decode cX10_takes 1 = .ok (.getfield 48, 3) := by decide +kernel
theorem dX10_takes_4 : decode cX10_takes 4 = .ok (.iload_n 1, 1) := by decide +kernel
theorem dX10_takes_5 : decode cX10_takes 5 = .ok (.iload_n 2, 1) := by decide +kernel
theorem dX10_takes_6 : decode cX10_takes 6 = .ok (.iastore, 1) := by decide +kernel
theorem dX10_takes_7 : decode cX10_takes 7 = .ok (.aload_n 0, 1) := by decide +kernel
theorem dX10_takes_8 : decode cX10_takes 8 = .ok (.getfield 142, 3) := by decide +kernel
theorem dX10_takes_11 : decode cX10_takes 11 = .ok (.ifCond .ne 21, 3) := by decide +kernel
theorem dX10_takes_14 : decode cX10_takes 14 = .ok (.aload_n 0, 1) := by decide +kernel
theorem dX10_takes_15 : decode cX10_takes 15 = .ok (.getfield 139, 3) := by decide +kernel
theorem dX10_takes_18 : decode cX10_takes 18 = .ok (.aload_n 0, 1) := by decide +kernel
theorem dX10_takes_19 : decode cX10_takes 19 = .ok (.iload_n 2, 1) := by decide +kernel
theorem dX10_takes_20 : decode cX10_takes 20 = .ok (.invokevirtual 100, 3) := by decide +kernel
theorem dX10_takes_23 : decode cX10_takes 23 = .ok (.if_icmp .lt 9, 3) := by decide +kernel
theorem dX10_takes_26 : decode cX10_takes 26 = .ok (.aload_n 0, 1) := by decide +kernel
theorem dX10_takes_27 : decode cX10_takes 27 = .ok (.iload_n 1, 1) := by decide +kernel
theorem dX10_takes_28 : decode cX10_takes 28 = .ok (.invokevirtual 157, 3) := by decide +kernel
theorem dX10_takes_31 : decode cX10_takes 31 = .ok (.return_, 1) := by decide +kernel
theorem dX10_takes_32 : decode cX10_takes 32 = .ok (.aload_n 0, 1) := by decide +kernel
theorem dX10_takes_33 : decode cX10_takes 33 = .ok (.getfield 45, 3) := by decide +kernel
theorem dX10_takes_36 : decode cX10_takes 36 = .ok (.iload_n 1, 1) := by decide +kernel
theorem dX10_takes_37 : decode cX10_takes 37 = .ok (.iconst 1, 1) := by decide +kernel
theorem dX10_takes_38 : decode cX10_takes 38 = .ok (.iastore, 1) := by decide +kernel
theorem dX10_takes_39 : decode cX10_takes 39 = .ok (.aload_n 0, 1) := by decide +kernel
theorem dX10_takes_40 : decode cX10_takes 40 = .ok (.getfield 72, 3) := by decide +kernel
theorem dX10_takes_43 : decode cX10_takes 43 = .ok (.aload_n 0, 1) := by decide +kernel
theorem dX10_takes_44 : decode cX10_takes 44 = .ok (.getfield 142, 3) := by decide +kernel
theorem dX10_takes_47 : decode cX10_takes 47 = .ok (.iload_n 1, 1) := by decide +kernel
theorem dX10_takes_48 : decode cX10_takes 48 = .ok (.iastore, 1) := by decide +kernel
theorem dX10_takes_49 : decode cX10_takes 49 = .ok (.aload_n 0, 1) := by decide +kernel
theorem dX10_takes_50 : decode cX10_takes 50 = .ok (.dup, 1) := by decide +kernel
theorem dX10_takes_51 : decode cX10_takes 51 = .ok (.getfield 142, 3) := by decide +kernel
theorem dX10_takes_54 : decode cX10_takes 54 = .ok (.iconst 1, 1) := by decide +kernel
theorem dX10_takes_55 : decode cX10_takes 55 = .ok (.iadd, 1) := by decide +kernel
theorem dX10_takes_56 : decode cX10_takes 56 = .ok (.putfield 142, 3) := by decide +kernel
theorem dX10_takes_59 : decode cX10_takes 59 = .ok (.return_, 1) := by decide +kernel
set_option maxRecDepth 20000 in
theorem ggX10_givesBack_X10_lengthOf : GoodIn wsX10_givesBack wsX10_lengthOf := goodIn_r _ [9, 10, 11, 22, 23, 24, 25, 26, 27, 28, 29, 30, 31, 32, 33, 34, 35, 36, 37, 38, 39, 40, 41, 42, 43, 44, 45, 46, 47, 48, 49, 50, 51, 52, 53, 54, 55, 56, 57, 58, 59] (by decide +kernel) (by decide +kernel)
set_option maxRecDepth 20000 in
theorem gX10_givesBack_X10_lengthOf : GoodIn wsX10_givesBack (wsV RX10 100 RX10 yX10_lengthOf wsX10_lengthOf) := goodIn_app (goodIn_of _ (by decide +kernel)) ggX10_givesBack_X10_lengthOf
set_option maxRecDepth 20000 in
theorem ggX10_givesBack_X10_leaves : GoodIn wsX10_givesBack wsX10_leaves := goodIn_r _ [15, 2, 4, 22, 23, 24, 25, 26, 27, 28, 29, 30, 31, 32, 33, 34, 35, 36, 37, 38, 39, 40, 41, 42, 43, 44, 45, 46, 47, 48, 49, 50, 51, 52, 53, 54, 55, 56, 57, 58, 59] (by decide +kernel) (by decide +kernel)
set_option maxRecDepth 20000 in
theorem gX10_givesBack_X10_leaves : GoodIn wsX10_givesBack (wsV RX10 160 RX10 yX10_leaves wsX10_leaves) := goodIn_app (goodIn_of _ (by decide +kernel)) ggX10_givesBack_X10_leaves
set_option maxRecDepth 20000 in
theorem ggX10_givesBack_X10_works : GoodIn wsX10_givesBack wsX10_works := goodIn_r _ [19, 1, 3, 20, 21, 5, 6, 7, 8, 9, 10, 11, 22, 23, 24, 25, 26, 27, 28, 29, 30, 31, 32, 33, 34, 35, 36, 37, 38, 39, 40, 41, 42, 43, 44, 45, 46, 47, 48, 49, 50, 51, 52, 53, 54, 55, 56, 57, 58, 59] (by decide +kernel) (by decide +kernel)
set_option maxRecDepth 20000 in
theorem gX10_givesBack_X10_works : GoodIn wsX10_givesBack (wsV RX10 157 RX10 yX10_works wsX10_works) := goodIn_app (goodIn_of _ (by decide +kernel)) ggX10_givesBack_X10_works
theorem dX10_givesBack_0 : decode cX10_givesBack 0 = .ok (.aload_n 0, 1) := by decide +kernel
theorem dX10_givesBack_1 : decode cX10_givesBack 1 = .ok (.dup, 1) := by decide +kernel
theorem dX10_givesBack_2 : decode cX10_givesBack 2 = .ok (.getfield 139, 3) := by decide +kernel
theorem dX10_givesBack_5 : decode cX10_givesBack 5 = .ok (.iload_n 1, 1) := by decide +kernel
theorem dX10_givesBack_6 : decode cX10_givesBack 6 = .ok (.iadd, 1) := by decide +kernel
theorem dX10_givesBack_7 : decode cX10_givesBack 7 = .ok (.putfield 139, 3) := by decide +kernel
theorem dX10_givesBack_10 : decode cX10_givesBack 10 = .ok (.aload_n 0, 1) := by decide +kernel
theorem dX10_givesBack_11 : decode cX10_givesBack 11 = .ok (.getfield 142, 3) := by decide +kernel
theorem dX10_givesBack_14 : decode cX10_givesBack 14 = .ok (.ifCond .le 45, 3) := by decide +kernel
theorem dX10_givesBack_17 : decode cX10_givesBack 17 = .ok (.aload_n 0, 1) := by decide +kernel
theorem dX10_givesBack_18 : decode cX10_givesBack 18 = .ok (.getfield 139, 3) := by decide +kernel
theorem dX10_givesBack_21 : decode cX10_givesBack 21 = .ok (.aload_n 0, 1) := by decide +kernel
theorem dX10_givesBack_22 : decode cX10_givesBack 22 = .ok (.aload_n 0, 1) := by decide +kernel
theorem dX10_givesBack_23 : decode cX10_givesBack 23 = .ok (.getfield 48, 3) := by decide +kernel
theorem dX10_givesBack_26 : decode cX10_givesBack 26 = .ok (.aload_n 0, 1) := by decide +kernel
theorem dX10_givesBack_27 : decode cX10_givesBack 27 = .ok (.getfield 72, 3) := by decide +kernel
theorem dX10_givesBack_30 : decode cX10_givesBack 30 = .ok (.iconst 0, 1) := by decide +kernel
theorem dX10_givesBack_31 : decode cX10_givesBack 31 = .ok (.iaload, 1) := by decide +kernel
theorem dX10_givesBack_32 : decode cX10_givesBack 32 = .ok (.iaload, 1) := by decide +kernel
theorem dX10_givesBack_33 : decode cX10_givesBack 33 = .ok (.invokevirtual 100, 3) := by decide +kernel
theorem dX10_givesBack_36 : decode cX10_givesBack 36 = .ok (.if_icmp .lt 23, 3) := by decide +kernel
theorem dX10_givesBack_39 : decode cX10_givesBack 39 = .ok (.aload_n 0, 1) := by decide +kernel
theorem dX10_givesBack_40 : decode cX10_givesBack 40 = .ok (.getfield 72, 3) := by decide +kernel
theorem dX10_givesBack_43 : decode cX10_givesBack 43 = .ok (.iconst 0, 1) := by decide +kernel
theorem dX10_givesBack_44 : decode cX10_givesBack 44 = .ok (.iaload, 1) := by decide +kernel
theorem dX10_givesBack_45 : decode cX10_givesBack 45 = .ok (.istore_n 2, 1) := by decide +kernel
theorem dX10_givesBack_46 : decode cX10_givesBack 46 = .ok (.aload_n 0, 1) := by decide +kernel
theorem dX10_givesBack_47 : decode cX10_givesBack 47 = .ok (.iload_n 2, 1) := by decide +kernel
theorem dX10_givesBack_48 : decode cX10_givesBack 48 = .ok (.invokevirtual 160, 3) := by decide +kernel
theorem dX10_givesBack_51 : decode cX10_givesBack 51 = .ok (.aload_n 0, 1) := by decide +kernel
theorem dX10_givesBack_52 : decode cX10_givesBack 52 = .ok (.iload_n 2, 1) := by decide +kernel
theorem dX10_givesBack_53 : decode cX10_givesBack 53 = .ok (.invokevirtual 157, 3) := by decide +kernel
theorem dX10_givesBack_56 : decode cX10_givesBack 56 = .ok (.goto (-46), 3) := by decide +kernel
theorem dX10_givesBack_59 : decode cX10_givesBack 59 = .ok (.return_, 1) := by decide +kernel
theorem dX10_leaves_0 : decode cX10_leaves 0 = .ok (.iconst 0, 1) := by decide +kernel
theorem dX10_leaves_1 : decode cX10_leaves 1 = .ok (.istore_n 2, 1) := by decide +kernel
theorem dX10_leaves_2 : decode cX10_leaves 2 = .ok (.iconst 0, 1) := by decide +kernel
theorem dX10_leaves_3 : decode cX10_leaves 3 = .ok (.istore_n 3, 1) := by decide +kernel
theorem dX10_leaves_4 : decode cX10_leaves 4 = .ok (.iload_n 3, 1) := by decide +kernel
theorem dX10_leaves_5 : decode cX10_leaves 5 = .ok (.aload_n 0, 1) := by decide +kernel
theorem dX10_leaves_6 : decode cX10_leaves 6 = .ok (.getfield 142, 3) := by decide +kernel
theorem dX10_leaves_9 : decode cX10_leaves 9 = .ok (.if_icmp .ge 34, 3) := by decide +kernel
theorem dX10_leaves_12 : decode cX10_leaves 12 = .ok (.aload_n 0, 1) := by decide +kernel
theorem dX10_leaves_13 : decode cX10_leaves 13 = .ok (.getfield 72, 3) := by decide +kernel
theorem dX10_leaves_16 : decode cX10_leaves 16 = .ok (.iload_n 3, 1) := by decide +kernel
theorem dX10_leaves_17 : decode cX10_leaves 17 = .ok (.iaload, 1) := by decide +kernel
theorem dX10_leaves_18 : decode cX10_leaves 18 = .ok (.iload_n 1, 1) := by decide +kernel
theorem dX10_leaves_19 : decode cX10_leaves 19 = .ok (.if_icmp .eq 18, 3) := by decide +kernel
theorem dX10_leaves_22 : decode cX10_leaves 22 = .ok (.aload_n 0, 1) := by decide +kernel
theorem dX10_leaves_23 : decode cX10_leaves 23 = .ok (.getfield 72, 3) := by decide +kernel
theorem dX10_leaves_26 : decode cX10_leaves 26 = .ok (.iload_n 2, 1) := by decide +kernel
theorem dX10_leaves_27 : decode cX10_leaves 27 = .ok (.aload_n 0, 1) := by decide +kernel
theorem dX10_leaves_28 : decode cX10_leaves 28 = .ok (.getfield 72, 3) := by decide +kernel
theorem dX10_leaves_31 : decode cX10_leaves 31 = .ok (.iload_n 3, 1) := by decide +kernel
theorem dX10_leaves_32 : decode cX10_leaves 32 = .ok (.iaload, 1) := by decide +kernel
theorem dX10_leaves_33 : decode cX10_leaves 33 = .ok (.iastore, 1) := by decide +kernel
theorem dX10_leaves_34 : decode cX10_leaves 34 = .ok (.iinc 2 1, 3) := by decide +kernel
theorem dX10_leaves_37 : decode cX10_leaves 37 = .ok (.iinc 3 1, 3) := by decide +kernel
theorem dX10_leaves_40 : decode cX10_leaves 40 = .ok (.goto (-36), 3) := by decide +kernel
theorem dX10_leaves_43 : decode cX10_leaves 43 = .ok (.aload_n 0, 1) := by decide +kernel
theorem dX10_leaves_44 : decode cX10_leaves 44 = .ok (.iload_n 2, 1) := by decide +kernel
theorem dX10_leaves_45 : decode cX10_leaves 45 = .ok (.putfield 142, 3) := by decide +kernel
theorem dX10_leaves_48 : decode cX10_leaves 48 = .ok (.return_, 1) := by decide +kernel
theorem dX10_isSome_0 : decode cX10_isSome 0 = .ok (.iconst 0, 1) := by decide +kernel
theorem dX10_isSome_1 : decode cX10_isSome 1 = .ok (.istore_n 3, 1) := by decide +kernel
theorem dX10_isSome_2 : decode cX10_isSome 2 = .ok (.iconst 0, 1) := by decide +kernel
theorem dX10_isSome_3 : decode cX10_isSome 3 = .ok (.istore 4, 2) := by decide +kernel
theorem dX10_isSome_5 : decode cX10_isSome 5 = .ok (.iload 4, 2) := by decide +kernel
theorem dX10_isSome_7 : decode cX10_isSome 7 = .ok (.aload_n 0, 1) := by decide +kernel
theorem dX10_isSome_8 : decode cX10_isSome 8 = .ok (.getfield 118, 3) := by decide +kernel
theorem dX10_isSome_11 : decode cX10_isSome 11 = .ok (.if_icmp .ge 74, 3) := by decide +kernel
theorem dX10_isSome_14 : decode cX10_isSome 14 = .ok (.iload_n 3, 1) := by decide +kernel
theorem dX10_isSome_15 : decode cX10_isSome 15 = .ok (.ifCond .ne 58, 3) := by decide +kernel
theorem dX10_isSome_18 : decode cX10_isSome 18 = .ok (.iload_n 2, 1) := by decide +kernel
theorem dX10_isSome_19 : decode cX10_isSome 19 = .ok (.ifCond .eq 43, 3) := by decide +kernel
theorem dX10_isSome_22 : decode cX10_isSome 22 = .ok (.aload_n 0, 1) := by decide +kernel
theorem dX10_isSome_23 : decode cX10_isSome 23 = .ok (.getfield 45, 3) := by decide +kernel
theorem dX10_isSome_26 : decode cX10_isSome 26 = .ok (.iload 4, 2) := by decide +kernel
theorem dX10_isSome_28 : decode cX10_isSome 28 = .ok (.iaload, 1) := by decide +kernel
theorem dX10_isSome_29 : decode cX10_isSome 29 = .ok (.iconst 1, 1) := by decide +kernel
theorem dX10_isSome_30 : decode cX10_isSome 30 = .ok (.if_icmp .eq 14, 3) := by decide +kernel
theorem dX10_isSome_33 : decode cX10_isSome 33 = .ok (.aload_n 0, 1) := by decide +kernel
theorem dX10_isSome_34 : decode cX10_isSome 34 = .ok (.getfield 45, 3) := by decide +kernel
theorem dX10_isSome_37 : decode cX10_isSome 37 = .ok (.iload 4, 2) := by decide +kernel
theorem dX10_isSome_39 : decode cX10_isSome 39 = .ok (.iaload, 1) := by decide +kernel
theorem dX10_isSome_40 : decode cX10_isSome 40 = .ok (.iconst 2, 1) := by decide +kernel
theorem dX10_isSome_41 : decode cX10_isSome 41 = .ok (.if_icmp .ne 36, 3) := by decide +kernel
theorem dX10_isSome_44 : decode cX10_isSome 44 = .ok (.aload_n 0, 1) := by decide +kernel
theorem dX10_isSome_45 : decode cX10_isSome 45 = .ok (.getfield 63, 3) := by decide +kernel
theorem dX10_isSome_48 : decode cX10_isSome 48 = .ok (.aload_n 0, 1) := by decide +kernel
theorem dX10_isSome_49 : decode cX10_isSome 49 = .ok (.getfield 48, 3) := by decide +kernel
theorem dX10_isSome_52 : decode cX10_isSome 52 = .ok (.iload 4, 2) := by decide +kernel
theorem dX10_isSome_54 : decode cX10_isSome 54 = .ok (.iaload, 1) := by decide +kernel
theorem dX10_isSome_55 : decode cX10_isSome 55 = .ok (.baload, 1) := by decide +kernel
theorem dX10_isSome_56 : decode cX10_isSome 56 = .ok (.ifCond .eq 21, 3) := by decide +kernel
theorem dX10_isSome_59 : decode cX10_isSome 59 = .ok (.goto 14, 3) := by decide +kernel
theorem dX10_isSome_62 : decode cX10_isSome 62 = .ok (.aload_n 0, 1) := by decide +kernel
theorem dX10_isSome_63 : decode cX10_isSome 63 = .ok (.getfield 45, 3) := by decide +kernel
theorem dX10_isSome_66 : decode cX10_isSome 66 = .ok (.iload 4, 2) := by decide +kernel
theorem dX10_isSome_68 : decode cX10_isSome 68 = .ok (.iaload, 1) := by decide +kernel
theorem dX10_isSome_69 : decode cX10_isSome 69 = .ok (.iload_n 1, 1) := by decide +kernel
theorem dX10_isSome_70 : decode cX10_isSome 70 = .ok (.if_icmp .ne 7, 3) := by decide +kernel
theorem dX10_isSome_73 : decode cX10_isSome 73 = .ok (.iconst 1, 1) := by decide +kernel
theorem dX10_isSome_74 : decode cX10_isSome 74 = .ok (.goto 4, 3) := by decide +kernel
theorem dX10_isSome_77 : decode cX10_isSome 77 = .ok (.iconst 0, 1) := by decide +kernel
theorem dX10_isSome_78 : decode cX10_isSome 78 = .ok (.istore_n 3, 1) := by decide +kernel
theorem dX10_isSome_79 : decode cX10_isSome 79 = .ok (.iinc 4 1, 3) := by decide +kernel
theorem dX10_isSome_82 : decode cX10_isSome 82 = .ok (.goto (-77), 3) := by decide +kernel
theorem dX10_isSome_85 : decode cX10_isSome 85 = .ok (.iload_n 3, 1) := by decide +kernel
theorem dX10_isSome_86 : decode cX10_isSome 86 = .ok (.ireturn, 1) := by decide +kernel
set_option maxRecDepth 20000 in
theorem ggX10_free_X10_isStopped : GoodIn wsX10_free wsX10_isStopped := goodIn_r _ [11, 12, 44, 45, 46, 47, 48, 49, 50, 51, 52, 53, 54, 55, 56, 57, 58, 59, 60, 61, 62, 63, 64, 65, 66, 67, 68, 69, 70, 71, 72, 73, 74, 75, 76, 77, 78, 79, 80, 81] (by decide +kernel) (by decide +kernel)
set_option maxRecDepth 20000 in
theorem gX10_free_X10_isStopped : GoodIn wsX10_free (wsV RX10 163 RX10 yX10_isStopped wsX10_isStopped) := goodIn_app (goodIn_of _ (by decide +kernel)) ggX10_free_X10_isStopped
set_option maxRecDepth 20000 in
theorem ggX10_free_X10_ends : GoodIn wsX10_free wsX10_ends := goodIn_r _ [16, 17, 18, 19, 44, 45, 46, 47, 48, 49, 50, 51, 52, 53, 54, 55, 56, 57, 58, 59, 60, 61, 62, 63, 64, 65, 66, 67, 68, 69, 70, 71, 72, 73, 74, 75, 76, 77, 78, 79, 80, 81] (by decide +kernel) (by decide +kernel)
set_option maxRecDepth 20000 in
theorem gX10_free_X10_ends : GoodIn wsX10_free (wsV RX10 167 RX10 yX10_ends wsX10_ends) := goodIn_app (goodIn_of _ (by decide +kernel)) ggX10_free_X10_ends
set_option maxRecDepth 20000 in
theorem ggX10_free_X10_isSome : GoodIn wsX10_free wsX10_isSome := goodIn_r _ [23, 24, 17, 25, 18, 44, 45, 46, 47, 48, 49, 50, 51, 52, 53, 54, 55, 56, 57, 58, 59, 60, 61, 62, 63, 64, 65, 66, 67, 68, 69, 70, 71, 72, 73, 74, 75, 76, 77, 78, 79, 80, 81] (by decide +kernel) (by decide +kernel)
set_option maxRecDepth 20000 in
theorem gX10_free_X10_isSome : GoodIn wsX10_free (wsV RX10 170 RX10 yX10_isSome wsX10_isSome) := goodIn_app (goodIn_of _ (by decide +kernel)) ggX10_free_X10_isSome
set_option maxRecDepth 20000 in
theorem ggX10_free_X10_takes : GoodIn wsX10_free wsX10_takes := goodIn_r _ [29, 18, 30, 31, 17, 32, 33, 34, 35, 10, 36, 37, 38, 39, 40, 41, 42, 43, 44, 45, 46, 47, 48, 49, 50, 51, 52, 53, 54, 55, 56, 57, 58, 59, 60, 61, 62, 63, 64, 65, 66, 67, 68, 69, 70, 71, 72, 73, 74, 75, 76, 77, 78, 79, 80, 81] (by decide +kernel) (by decide +kernel)
set_option maxRecDepth 20000 in
theorem gX10_free_X10_takes : GoodIn wsX10_free (wsV RX10 174 RX10 yX10_takes wsX10_takes) := goodIn_app (goodIn_of _ (by decide +kernel)) ggX10_free_X10_takes
theorem dX10_free_0 : decode cX10_free 0 = .ok (.aload_n 0, 1) := by decide +kernel
theorem dX10_free_1 : decode cX10_free 1 = .ok (.getfield 60, 3) := by decide +kernel
theorem dX10_free_4 : decode cX10_free 4 = .ok (.iload_n 1, 1) := by decide +kernel
theorem dX10_free_5 : decode cX10_free 5 = .ok (.baload, 1) := by decide +kernel
theorem dX10_free_6 : decode cX10_free 6 = .ok (.ifCond .ne 21, 3) := by decide +kernel
theorem dX10_free_9 : decode cX10_free 9 = .ok (.aload_n 0, 1) := by decide +kernel
theorem dX10_free_10 : decode cX10_free 10 = .ok (.invokevirtual 163, 3) := by decide +kernel
theorem dX10_free_13 : decode cX10_free 13 = .ok (.ifCond .ne 14, 3) := by decide +kernel
theorem dX10_free_16 : decode cX10_free 16 = .ok (.aload_n 0, 1) := by decide +kernel
theorem dX10_free_17 : decode cX10_free 17 = .ok (.getfield 136, 3) := by decide +kernel
theorem dX10_free_20 : decode cX10_free 20 = .ok (.aload_n 0, 1) := by decide +kernel
theorem dX10_free_21 : decode cX10_free 21 = .ok (.getfield 121, 3) := by decide +kernel
theorem dX10_free_24 : decode cX10_free 24 = .ok (.if_icmp .ne 10, 3) := by decide +kernel
theorem dX10_free_27 : decode cX10_free 27 = .ok (.aload_n 0, 1) := by decide +kernel
theorem dX10_free_28 : decode cX10_free 28 = .ok (.iload_n 1, 1) := by decide +kernel
theorem dX10_free_29 : decode cX10_free 29 = .ok (.invokevirtual 167, 3) := by decide +kernel
theorem dX10_free_32 : decode cX10_free 32 = .ok (.iconst 1, 1) := by decide +kernel
theorem dX10_free_33 : decode cX10_free 33 = .ok (.ireturn, 1) := by decide +kernel
theorem dX10_free_34 : decode cX10_free 34 = .ok (.aload_n 0, 1) := by decide +kernel
theorem dX10_free_35 : decode cX10_free 35 = .ok (.iconst 2, 1) := by decide +kernel
theorem dX10_free_36 : decode cX10_free 36 = .ok (.iconst 1, 1) := by decide +kernel
theorem dX10_free_37 : decode cX10_free 37 = .ok (.invokevirtual 170, 3) := by decide +kernel
theorem dX10_free_40 : decode cX10_free 40 = .ok (.ifCond .eq 5, 3) := by decide +kernel
theorem dX10_free_43 : decode cX10_free 43 = .ok (.iconst 0, 1) := by decide +kernel
theorem dX10_free_44 : decode cX10_free 44 = .ok (.ireturn, 1) := by decide +kernel
theorem dX10_free_45 : decode cX10_free 45 = .ok (.aload_n 0, 1) := by decide +kernel
theorem dX10_free_46 : decode cX10_free 46 = .ok (.getfield 130, 3) := by decide +kernel
theorem dX10_free_49 : decode cX10_free 49 = .ok (.ifCond .le 69, 3) := by decide +kernel
theorem dX10_free_52 : decode cX10_free 52 = .ok (.aload_n 0, 1) := by decide +kernel
theorem dX10_free_53 : decode cX10_free 53 = .ok (.iconst 2, 1) := by decide +kernel
theorem dX10_free_54 : decode cX10_free 54 = .ok (.iconst 0, 1) := by decide +kernel
theorem dX10_free_55 : decode cX10_free 55 = .ok (.invokevirtual 170, 3) := by decide +kernel
theorem dX10_free_58 : decode cX10_free 58 = .ok (.ifCond .eq 5, 3) := by decide +kernel
theorem dX10_free_61 : decode cX10_free 61 = .ok (.iconst 0, 1) := by decide +kernel
theorem dX10_free_62 : decode cX10_free 62 = .ok (.ireturn, 1) := by decide +kernel
theorem dX10_free_63 : decode cX10_free 63 = .ok (.aload_n 0, 1) := by decide +kernel
theorem dX10_free_64 : decode cX10_free 64 = .ok (.getfield 66, 3) := by decide +kernel
theorem dX10_free_67 : decode cX10_free 67 = .ok (.iconst 0, 1) := by decide +kernel
theorem dX10_free_68 : decode cX10_free 68 = .ok (.iaload, 1) := by decide +kernel
theorem dX10_free_69 : decode cX10_free 69 = .ok (.istore_n 2, 1) := by decide +kernel
theorem dX10_free_70 : decode cX10_free 70 = .ok (.aload_n 0, 1) := by decide +kernel
theorem dX10_free_71 : decode cX10_free 71 = .ok (.dup, 1) := by decide +kernel
theorem dX10_free_72 : decode cX10_free 72 = .ok (.getfield 130, 3) := by decide +kernel
theorem dX10_free_75 : decode cX10_free 75 = .ok (.iconst 1, 1) := by decide +kernel
theorem dX10_free_76 : decode cX10_free 76 = .ok (.isub, 1) := by decide +kernel
theorem dX10_free_77 : decode cX10_free 77 = .ok (.putfield 130, 3) := by decide +kernel
theorem dX10_free_80 : decode cX10_free 80 = .ok (.iconst 0, 1) := by decide +kernel
theorem dX10_free_81 : decode cX10_free 81 = .ok (.istore_n 3, 1) := by decide +kernel
theorem dX10_free_82 : decode cX10_free 82 = .ok (.iload_n 3, 1) := by decide +kernel
theorem dX10_free_83 : decode cX10_free 83 = .ok (.aload_n 0, 1) := by decide +kernel
theorem dX10_free_84 : decode cX10_free 84 = .ok (.getfield 130, 3) := by decide +kernel
theorem dX10_free_87 : decode cX10_free 87 = .ok (.if_icmp .ge 23, 3) := by decide +kernel
theorem dX10_free_90 : decode cX10_free 90 = .ok (.aload_n 0, 1) := by decide +kernel
theorem dX10_free_91 : decode cX10_free 91 = .ok (.getfield 66, 3) := by decide +kernel
theorem dX10_free_94 : decode cX10_free 94 = .ok (.iload_n 3, 1) := by decide +kernel
theorem dX10_free_95 : decode cX10_free 95 = .ok (.aload_n 0, 1) := by decide +kernel
theorem dX10_free_96 : decode cX10_free 96 = .ok (.getfield 66, 3) := by decide +kernel
theorem dX10_free_99 : decode cX10_free 99 = .ok (.iload_n 3, 1) := by decide +kernel
theorem dX10_free_100 : decode cX10_free 100 = .ok (.iconst 1, 1) := by decide +kernel
theorem dX10_free_101 : decode cX10_free 101 = .ok (.iadd, 1) := by decide +kernel
theorem dX10_free_102 : decode cX10_free 102 = .ok (.iaload, 1) := by decide +kernel
theorem dX10_free_103 : decode cX10_free 103 = .ok (.iastore, 1) := by decide +kernel
theorem dX10_free_104 : decode cX10_free 104 = .ok (.iinc 3 1, 3) := by decide +kernel
theorem dX10_free_107 : decode cX10_free 107 = .ok (.goto (-25), 3) := by decide +kernel
theorem dX10_free_110 : decode cX10_free 110 = .ok (.aload_n 0, 1) := by decide +kernel
theorem dX10_free_111 : decode cX10_free 111 = .ok (.iload_n 1, 1) := by decide +kernel
theorem dX10_free_112 : decode cX10_free 112 = .ok (.iload_n 2, 1) := by decide +kernel
theorem dX10_free_113 : decode cX10_free 113 = .ok (.invokevirtual 174, 3) := by decide +kernel
theorem dX10_free_116 : decode cX10_free 116 = .ok (.iconst 1, 1) := by decide +kernel
theorem dX10_free_117 : decode cX10_free 117 = .ok (.ireturn, 1) := by decide +kernel
theorem dX10_free_118 : decode cX10_free 118 = .ok (.aload_n 0, 1) := by decide +kernel
theorem dX10_free_119 : decode cX10_free 119 = .ok (.getfield 127, 3) := by decide +kernel
theorem dX10_free_122 : decode cX10_free 122 = .ok (.aload_n 0, 1) := by decide +kernel
theorem dX10_free_123 : decode cX10_free 123 = .ok (.getfield 121, 3) := by decide +kernel
theorem dX10_free_126 : decode cX10_free 126 = .ok (.if_icmp .ne 5, 3) := by decide +kernel
theorem dX10_free_129 : decode cX10_free 129 = .ok (.iconst 0, 1) := by decide +kernel
theorem dX10_free_130 : decode cX10_free 130 = .ok (.ireturn, 1) := by decide +kernel
theorem dX10_free_131 : decode cX10_free 131 = .ok (.aload_n 0, 1) := by decide +kernel
theorem dX10_free_132 : decode cX10_free 132 = .ok (.dup, 1) := by decide +kernel
theorem dX10_free_133 : decode cX10_free 133 = .ok (.getfield 127, 3) := by decide +kernel
theorem dX10_free_136 : decode cX10_free 136 = .ok (.iconst 1, 1) := by decide +kernel
theorem dX10_free_137 : decode cX10_free 137 = .ok (.iadd, 1) := by decide +kernel
theorem dX10_free_138 : decode cX10_free 138 = .ok (.putfield 127, 3) := by decide +kernel
theorem dX10_free_141 : decode cX10_free 141 = .ok (.aload_n 0, 1) := by decide +kernel
theorem dX10_free_142 : decode cX10_free 142 = .ok (.iload_n 1, 1) := by decide +kernel
theorem dX10_free_143 : decode cX10_free 143 = .ok (.aload_n 0, 1) := by decide +kernel
theorem dX10_free_144 : decode cX10_free 144 = .ok (.getfield 127, 3) := by decide +kernel
theorem dX10_free_147 : decode cX10_free 147 = .ok (.iconst 1, 1) := by decide +kernel
theorem dX10_free_148 : decode cX10_free 148 = .ok (.isub, 1) := by decide +kernel
theorem dX10_free_149 : decode cX10_free 149 = .ok (.invokevirtual 174, 3) := by decide +kernel
theorem dX10_free_152 : decode cX10_free 152 = .ok (.iconst 1, 1) := by decide +kernel
theorem dX10_free_153 : decode cX10_free 153 = .ok (.ireturn, 1) := by decide +kernel
set_option maxRecDepth 20000 in
theorem ggX10_work_X10_lengthOf : GoodIn wsX10_work wsX10_lengthOf := goodIn_r _ [19, 20, 21, 55, 56, 57, 58, 59, 60, 61, 62, 63, 64, 65, 66, 67, 68, 69, 70, 71, 72, 73, 74, 75, 76, 77, 78, 79, 80, 81, 82, 83, 84, 85, 86, 87, 88, 89, 90, 91, 92] (by decide +kernel) (by decide +kernel)
set_option maxRecDepth 20000 in
theorem gX10_work_X10_lengthOf : GoodIn wsX10_work (wsV RX10 100 RX10 yX10_lengthOf wsX10_lengthOf) := goodIn_app (goodIn_of _ (by decide +kernel)) ggX10_work_X10_lengthOf
set_option maxRecDepth 20000 in
theorem ggX10_work_X10_isStopped : GoodIn wsX10_work wsX10_isStopped := goodIn_r _ [25, 10, 55, 56, 57, 58, 59, 60, 61, 62, 63, 64, 65, 66, 67, 68, 69, 70, 71, 72, 73, 74, 75, 76, 77, 78, 79, 80, 81, 82, 83, 84, 85, 86, 87, 88, 89, 90, 91, 92] (by decide +kernel) (by decide +kernel)
set_option maxRecDepth 20000 in
theorem gX10_work_X10_isStopped : GoodIn wsX10_work (wsV RX10 163 RX10 yX10_isStopped wsX10_isStopped) := goodIn_app (goodIn_of _ (by decide +kernel)) ggX10_work_X10_isStopped
set_option maxRecDepth 20000 in
theorem ggX10_work_X10_ends : GoodIn wsX10_work wsX10_ends := goodIn_r _ [29, 8, 1, 30, 55, 56, 57, 58, 59, 60, 61, 62, 63, 64, 65, 66, 67, 68, 69, 70, 71, 72, 73, 74, 75, 76, 77, 78, 79, 80, 81, 82, 83, 84, 85, 86, 87, 88, 89, 90, 91, 92] (by decide +kernel) (by decide +kernel)
set_option maxRecDepth 20000 in
theorem gX10_work_X10_ends : GoodIn wsX10_work (wsV RX10 167 RX10 yX10_ends wsX10_ends) := goodIn_app (goodIn_of _ (by decide +kernel)) ggX10_work_X10_ends
set_option maxRecDepth 20000 in
theorem ggX10_work_X10_givesBack : GoodIn wsX10_work wsX10_givesBack := goodIn_r _ [34, 35, 36, 1, 37, 15, 16, 17, 18, 19, 20, 21, 38, 39, 40, 41, 42, 43, 44, 45, 8, 4, 55, 56, 57, 58, 59, 60, 61, 62, 63, 64, 65, 66, 67, 68, 69, 70, 71, 72, 73, 74, 75, 76, 77, 78, 79, 80, 81, 82, 83, 84, 85, 86, 87, 88, 89, 90, 91, 92] (by decide +kernel) (by decide +kernel)
set_option maxRecDepth 20000 in
theorem gX10_work_X10_givesBack : GoodIn wsX10_work (wsV RX10 177 RX10 yX10_givesBack wsX10_givesBack) := goodIn_app (goodIn_of _ (by decide +kernel)) ggX10_work_X10_givesBack
set_option maxRecDepth 20000 in
theorem ggX10_work_X10_lays : GoodIn wsX10_work wsX10_lays := goodIn_r _ [49, 1, 50, 51, 52, 53, 8, 54, 55, 56, 57, 58, 59, 60, 61, 62, 63, 64, 65, 66, 67, 68, 69, 70, 71, 72, 73, 74, 75, 76, 77, 78, 79, 80, 81, 82, 83, 84, 85, 86, 87, 88, 89, 90, 91, 92] (by decide +kernel) (by decide +kernel)
set_option maxRecDepth 20000 in
theorem gX10_work_X10_lays : GoodIn wsX10_work (wsV RX10 180 RX10 yX10_lays wsX10_lays) := goodIn_app (goodIn_of _ (by decide +kernel)) ggX10_work_X10_lays
theorem dX10_work_0 : decode cX10_work 0 = .ok (.aload_n 0, 1) := by decide +kernel
theorem dX10_work_1 : decode cX10_work 1 = .ok (.getfield 48, 3) := by decide +kernel
theorem dX10_work_4 : decode cX10_work 4 = .ok (.iload_n 1, 1) := by decide +kernel
theorem dX10_work_5 : decode cX10_work 5 = .ok (.iaload, 1) := by decide +kernel
theorem dX10_work_6 : decode cX10_work 6 = .ok (.istore_n 2, 1) := by decide +kernel
theorem dX10_work_7 : decode cX10_work 7 = .ok (.aload_n 0, 1) := by decide +kernel
theorem dX10_work_8 : decode cX10_work 8 = .ok (.iload_n 2, 1) := by decide +kernel
theorem dX10_work_9 : decode cX10_work 9 = .ok (.invokevirtual 100, 3) := by decide +kernel
theorem dX10_work_12 : decode cX10_work 12 = .ok (.istore_n 3, 1) := by decide +kernel
theorem dX10_work_13 : decode cX10_work 13 = .ok (.aload_n 0, 1) := by decide +kernel
theorem dX10_work_14 : decode cX10_work 14 = .ok (.invokevirtual 163, 3) := by decide +kernel
theorem dX10_work_17 : decode cX10_work 17 = .ok (.ifCond .eq 15, 3) := by decide +kernel
theorem dX10_work_20 : decode cX10_work 20 = .ok (.aload_n 0, 1) := by decide +kernel
theorem dX10_work_21 : decode cX10_work 21 = .ok (.iload_n 1, 1) := by decide +kernel
theorem dX10_work_22 : decode cX10_work 22 = .ok (.invokevirtual 167, 3) := by decide +kernel
theorem dX10_work_25 : decode cX10_work 25 = .ok (.aload_n 0, 1) := by decide +kernel
theorem dX10_work_26 : decode cX10_work 26 = .ok (.iload_n 3, 1) := by decide +kernel
theorem dX10_work_27 : decode cX10_work 27 = .ok (.invokevirtual 177, 3) := by decide +kernel
theorem dX10_work_30 : decode cX10_work 30 = .ok (.iconst 1, 1) := by decide +kernel
theorem dX10_work_31 : decode cX10_work 31 = .ok (.ireturn, 1) := by decide +kernel
theorem dX10_work_32 : decode cX10_work 32 = .ok (.aload_n 0, 1) := by decide +kernel
theorem dX10_work_33 : decode cX10_work 33 = .ok (.getfield 26, 3) := by decide +kernel
theorem dX10_work_36 : decode cX10_work 36 = .ok (.iload_n 2, 1) := by decide +kernel
theorem dX10_work_37 : decode cX10_work 37 = .ok (.iaload, 1) := by decide +kernel
theorem dX10_work_38 : decode cX10_work 38 = .ok (.ifCond .le 121, 3) := by decide +kernel
theorem dX10_work_41 : decode cX10_work 41 = .ok (.aload_n 0, 1) := by decide +kernel
theorem dX10_work_42 : decode cX10_work 42 = .ok (.getfield 29, 3) := by decide +kernel
theorem dX10_work_45 : decode cX10_work 45 = .ok (.iload_n 2, 1) := by decide +kernel
theorem dX10_work_46 : decode cX10_work 46 = .ok (.iaload, 1) := by decide +kernel
theorem dX10_work_47 : decode cX10_work 47 = .ok (.aload_n 0, 1) := by decide +kernel
theorem dX10_work_48 : decode cX10_work 48 = .ok (.getfield 51, 3) := by decide +kernel
theorem dX10_work_51 : decode cX10_work 51 = .ok (.iload_n 1, 1) := by decide +kernel
theorem dX10_work_52 : decode cX10_work 52 = .ok (.iaload, 1) := by decide +kernel
theorem dX10_work_53 : decode cX10_work 53 = .ok (.if_icmp .ne 106, 3) := by decide +kernel
theorem dX10_work_56 : decode cX10_work 56 = .ok (.aload_n 0, 1) := by decide +kernel
theorem dX10_work_57 : decode cX10_work 57 = .ok (.getfield 63, 3) := by decide +kernel
theorem dX10_work_60 : decode cX10_work 60 = .ok (.iload_n 2, 1) := by decide +kernel
theorem dX10_work_61 : decode cX10_work 61 = .ok (.baload, 1) := by decide +kernel
theorem dX10_work_62 : decode cX10_work 62 = .ok (.ifCond .eq 12, 3) := by decide +kernel
theorem dX10_work_65 : decode cX10_work 65 = .ok (.aload_n 0, 1) := by decide +kernel
theorem dX10_work_66 : decode cX10_work 66 = .ok (.getfield 32, 3) := by decide +kernel
theorem dX10_work_69 : decode cX10_work 69 = .ok (.iload_n 2, 1) := by decide +kernel
theorem dX10_work_70 : decode cX10_work 70 = .ok (.baload, 1) := by decide +kernel
theorem dX10_work_71 : decode cX10_work 71 = .ok (.ifCond .eq 88, 3) := by decide +kernel
theorem dX10_work_74 : decode cX10_work 74 = .ok (.aload_n 0, 1) := by decide +kernel
theorem dX10_work_75 : decode cX10_work 75 = .ok (.dup, 1) := by decide +kernel
theorem dX10_work_76 : decode cX10_work 76 = .ok (.getfield 151, 3) := by decide +kernel
theorem dX10_work_79 : decode cX10_work 79 = .ok (.iconst 1, 1) := by decide +kernel
theorem dX10_work_80 : decode cX10_work 80 = .ok (.iadd, 1) := by decide +kernel
theorem dX10_work_81 : decode cX10_work 81 = .ok (.putfield 151, 3) := by decide +kernel
theorem dX10_work_84 : decode cX10_work 84 = .ok (.aload_n 0, 1) := by decide +kernel
theorem dX10_work_85 : decode cX10_work 85 = .ok (.getfield 45, 3) := by decide +kernel
theorem dX10_work_88 : decode cX10_work 88 = .ok (.iload_n 1, 1) := by decide +kernel
theorem dX10_work_89 : decode cX10_work 89 = .ok (.iconst 0, 1) := by decide +kernel
theorem dX10_work_90 : decode cX10_work 90 = .ok (.iastore, 1) := by decide +kernel
theorem dX10_work_91 : decode cX10_work 91 = .ok (.aload_n 0, 1) := by decide +kernel
theorem dX10_work_92 : decode cX10_work 92 = .ok (.getfield 48, 3) := by decide +kernel
theorem dX10_work_95 : decode cX10_work 95 = .ok (.iload_n 1, 1) := by decide +kernel
theorem dX10_work_96 : decode cX10_work 96 = .ok (.iconst (-1), 1) := by decide +kernel
theorem dX10_work_97 : decode cX10_work 97 = .ok (.iastore, 1) := by decide +kernel
theorem dX10_work_98 : decode cX10_work 98 = .ok (.aload_n 0, 1) := by decide +kernel
theorem dX10_work_99 : decode cX10_work 99 = .ok (.getfield 63, 3) := by decide +kernel
theorem dX10_work_102 : decode cX10_work 102 = .ok (.iload_n 2, 1) := by decide +kernel
theorem dX10_work_103 : decode cX10_work 103 = .ok (.baload, 1) := by decide +kernel
theorem dX10_work_104 : decode cX10_work 104 = .ok (.ifCond .eq 21, 3) := by decide +kernel
theorem dX10_work_107 : decode cX10_work 107 = .ok (.aload_n 0, 1) := by decide +kernel
theorem dX10_work_108 : decode cX10_work 108 = .ok (.iload_n 2, 1) := by decide +kernel
theorem dX10_work_109 : decode cX10_work 109 = .ok (.putfield 145, 3) := by decide +kernel
theorem dX10_work_112 : decode cX10_work 112 = .ok (.aload_n 0, 1) := by decide +kernel
theorem dX10_work_113 : decode cX10_work 113 = .ok (.aload_n 0, 1) := by decide +kernel
theorem dX10_work_114 : decode cX10_work 114 = .ok (.getfield 26, 3) := by decide +kernel
theorem dX10_work_117 : decode cX10_work 117 = .ok (.iload_n 2, 1) := by decide +kernel
theorem dX10_work_118 : decode cX10_work 118 = .ok (.iaload, 1) := by decide +kernel
theorem dX10_work_119 : decode cX10_work 119 = .ok (.putfield 148, 3) := by decide +kernel
theorem dX10_work_122 : decode cX10_work 122 = .ok (.goto 30, 3) := by decide +kernel
theorem dX10_work_125 : decode cX10_work 125 = .ok (.aload_n 0, 1) := by decide +kernel
theorem dX10_work_126 : decode cX10_work 126 = .ok (.getfield 63, 3) := by decide +kernel
theorem dX10_work_129 : decode cX10_work 129 = .ok (.iload_n 2, 1) := by decide +kernel
theorem dX10_work_130 : decode cX10_work 130 = .ok (.iconst 1, 1) := by decide +kernel
theorem dX10_work_131 : decode cX10_work 131 = .ok (.bastore, 1) := by decide +kernel
theorem dX10_work_132 : decode cX10_work 132 = .ok (.aload_n 0, 1) := by decide +kernel
theorem dX10_work_133 : decode cX10_work 133 = .ok (.getfield 66, 3) := by decide +kernel
theorem dX10_work_136 : decode cX10_work 136 = .ok (.aload_n 0, 1) := by decide +kernel
theorem dX10_work_137 : decode cX10_work 137 = .ok (.getfield 130, 3) := by decide +kernel
theorem dX10_work_140 : decode cX10_work 140 = .ok (.iload_n 2, 1) := by decide +kernel
theorem dX10_work_141 : decode cX10_work 141 = .ok (.iastore, 1) := by decide +kernel
theorem dX10_work_142 : decode cX10_work 142 = .ok (.aload_n 0, 1) := by decide +kernel
theorem dX10_work_143 : decode cX10_work 143 = .ok (.dup, 1) := by decide +kernel
theorem dX10_work_144 : decode cX10_work 144 = .ok (.getfield 130, 3) := by decide +kernel
theorem dX10_work_147 : decode cX10_work 147 = .ok (.iconst 1, 1) := by decide +kernel
theorem dX10_work_148 : decode cX10_work 148 = .ok (.iadd, 1) := by decide +kernel
theorem dX10_work_149 : decode cX10_work 149 = .ok (.putfield 130, 3) := by decide +kernel
theorem dX10_work_152 : decode cX10_work 152 = .ok (.aload_n 0, 1) := by decide +kernel
theorem dX10_work_153 : decode cX10_work 153 = .ok (.iload_n 3, 1) := by decide +kernel
theorem dX10_work_154 : decode cX10_work 154 = .ok (.invokevirtual 177, 3) := by decide +kernel
theorem dX10_work_157 : decode cX10_work 157 = .ok (.iconst 1, 1) := by decide +kernel
theorem dX10_work_158 : decode cX10_work 158 = .ok (.ireturn, 1) := by decide +kernel
theorem dX10_work_159 : decode cX10_work 159 = .ok (.aload_n 0, 1) := by decide +kernel
theorem dX10_work_160 : decode cX10_work 160 = .ok (.getfield 51, 3) := by decide +kernel
theorem dX10_work_163 : decode cX10_work 163 = .ok (.iload_n 1, 1) := by decide +kernel
theorem dX10_work_164 : decode cX10_work 164 = .ok (.dup2, 1) := by decide +kernel
theorem dX10_work_165 : decode cX10_work 165 = .ok (.iaload, 1) := by decide +kernel
theorem dX10_work_166 : decode cX10_work 166 = .ok (.iconst 1, 1) := by decide +kernel
theorem dX10_work_167 : decode cX10_work 167 = .ok (.iadd, 1) := by decide +kernel
theorem dX10_work_168 : decode cX10_work 168 = .ok (.iastore, 1) := by decide +kernel
theorem dX10_work_169 : decode cX10_work 169 = .ok (.aload_n 0, 1) := by decide +kernel
theorem dX10_work_170 : decode cX10_work 170 = .ok (.getfield 51, 3) := by decide +kernel
theorem dX10_work_173 : decode cX10_work 173 = .ok (.iload_n 1, 1) := by decide +kernel
theorem dX10_work_174 : decode cX10_work 174 = .ok (.iaload, 1) := by decide +kernel
theorem dX10_work_175 : decode cX10_work 175 = .ok (.aload_n 0, 1) := by decide +kernel
theorem dX10_work_176 : decode cX10_work 176 = .ok (.getfield 42, 3) := by decide +kernel
theorem dX10_work_179 : decode cX10_work 179 = .ok (.iload_n 2, 1) := by decide +kernel
theorem dX10_work_180 : decode cX10_work 180 = .ok (.iaload, 1) := by decide +kernel
theorem dX10_work_181 : decode cX10_work 181 = .ok (.if_icmp .ne 32, 3) := by decide +kernel
theorem dX10_work_184 : decode cX10_work 184 = .ok (.aload_n 0, 1) := by decide +kernel
theorem dX10_work_185 : decode cX10_work 185 = .ok (.getfield 54, 3) := by decide +kernel
theorem dX10_work_188 : decode cX10_work 188 = .ok (.iload_n 1, 1) := by decide +kernel
theorem dX10_work_189 : decode cX10_work 189 = .ok (.dup2, 1) := by decide +kernel
theorem dX10_work_190 : decode cX10_work 190 = .ok (.iaload, 1) := by decide +kernel
theorem dX10_work_191 : decode cX10_work 191 = .ok (.iconst 1, 1) := by decide +kernel
theorem dX10_work_192 : decode cX10_work 192 = .ok (.iadd, 1) := by decide +kernel
theorem dX10_work_193 : decode cX10_work 193 = .ok (.iastore, 1) := by decide +kernel
theorem dX10_work_194 : decode cX10_work 194 = .ok (.aload_n 0, 1) := by decide +kernel
theorem dX10_work_195 : decode cX10_work 195 = .ok (.getfield 45, 3) := by decide +kernel
theorem dX10_work_198 : decode cX10_work 198 = .ok (.iload_n 1, 1) := by decide +kernel
theorem dX10_work_199 : decode cX10_work 199 = .ok (.iconst 3, 1) := by decide +kernel
theorem dX10_work_200 : decode cX10_work 200 = .ok (.iastore, 1) := by decide +kernel
theorem dX10_work_201 : decode cX10_work 201 = .ok (.aload_n 0, 1) := by decide +kernel
theorem dX10_work_202 : decode cX10_work 202 = .ok (.iload_n 3, 1) := by decide +kernel
theorem dX10_work_203 : decode cX10_work 203 = .ok (.invokevirtual 177, 3) := by decide +kernel
theorem dX10_work_206 : decode cX10_work 206 = .ok (.aload_n 0, 1) := by decide +kernel
theorem dX10_work_207 : decode cX10_work 207 = .ok (.iload_n 1, 1) := by decide +kernel
theorem dX10_work_208 : decode cX10_work 208 = .ok (.invokevirtual 180, 3) := by decide +kernel
theorem dX10_work_211 : decode cX10_work 211 = .ok (.istore 4, 2) := by decide +kernel
theorem dX10_work_213 : decode cX10_work 213 = .ok (.iconst 1, 1) := by decide +kernel
theorem dX10_work_214 : decode cX10_work 214 = .ok (.ireturn, 1) := by decide +kernel
theorem dX10_lays_0 : decode cX10_lays 0 = .ok (.aload_n 0, 1) := by decide +kernel
theorem dX10_lays_1 : decode cX10_lays 1 = .ok (.getfield 48, 3) := by decide +kernel
theorem dX10_lays_4 : decode cX10_lays 4 = .ok (.iload_n 1, 1) := by decide +kernel
theorem dX10_lays_5 : decode cX10_lays 5 = .ok (.iaload, 1) := by decide +kernel
theorem dX10_lays_6 : decode cX10_lays 6 = .ok (.istore_n 2, 1) := by decide +kernel
theorem dX10_lays_7 : decode cX10_lays 7 = .ok (.iload_n 2, 1) := by decide +kernel
theorem dX10_lays_8 : decode cX10_lays 8 = .ok (.aload_n 0, 1) := by decide +kernel
theorem dX10_lays_9 : decode cX10_lays 9 = .ok (.getfield 136, 3) := by decide +kernel
theorem dX10_lays_12 : decode cX10_lays 12 = .ok (.if_icmp .eq 16, 3) := by decide +kernel
theorem dX10_lays_15 : decode cX10_lays 15 = .ok (.aload_n 0, 1) := by decide +kernel
theorem dX10_lays_16 : decode cX10_lays 16 = .ok (.getfield 133, 3) := by decide +kernel
theorem dX10_lays_19 : decode cX10_lays 19 = .ok (.aload_n 0, 1) := by decide +kernel
theorem dX10_lays_20 : decode cX10_lays 20 = .ok (.getfield 23, 3) := by decide +kernel
theorem dX10_lays_23 : decode cX10_lays 23 = .ok (.if_icmp .lt 5, 3) := by decide +kernel
theorem dX10_lays_26 : decode cX10_lays 26 = .ok (.iconst 0, 1) := by decide +kernel
theorem dX10_lays_27 : decode cX10_lays 27 = .ok (.ireturn, 1) := by decide +kernel
theorem dX10_lays_28 : decode cX10_lays 28 = .ok (.aload_n 0, 1) := by decide +kernel
theorem dX10_lays_29 : decode cX10_lays 29 = .ok (.getfield 69, 3) := by decide +kernel
theorem dX10_lays_32 : decode cX10_lays 32 = .ok (.iload_n 2, 1) := by decide +kernel
theorem dX10_lays_33 : decode cX10_lays 33 = .ok (.iconst 1, 1) := by decide +kernel
theorem dX10_lays_34 : decode cX10_lays 34 = .ok (.bastore, 1) := by decide +kernel
theorem dX10_lays_35 : decode cX10_lays 35 = .ok (.aload_n 0, 1) := by decide +kernel
theorem dX10_lays_36 : decode cX10_lays 36 = .ok (.dup, 1) := by decide +kernel
theorem dX10_lays_37 : decode cX10_lays 37 = .ok (.getfield 133, 3) := by decide +kernel
theorem dX10_lays_40 : decode cX10_lays 40 = .ok (.iconst 1, 1) := by decide +kernel
theorem dX10_lays_41 : decode cX10_lays 41 = .ok (.iadd, 1) := by decide +kernel
theorem dX10_lays_42 : decode cX10_lays 42 = .ok (.putfield 133, 3) := by decide +kernel
theorem dX10_lays_45 : decode cX10_lays 45 = .ok (.aload_n 0, 1) := by decide +kernel
theorem dX10_lays_46 : decode cX10_lays 46 = .ok (.getfield 45, 3) := by decide +kernel
theorem dX10_lays_49 : decode cX10_lays 49 = .ok (.iload_n 1, 1) := by decide +kernel
theorem dX10_lays_50 : decode cX10_lays 50 = .ok (.iconst 0, 1) := by decide +kernel
theorem dX10_lays_51 : decode cX10_lays 51 = .ok (.iastore, 1) := by decide +kernel
theorem dX10_lays_52 : decode cX10_lays 52 = .ok (.aload_n 0, 1) := by decide +kernel
theorem dX10_lays_53 : decode cX10_lays 53 = .ok (.getfield 48, 3) := by decide +kernel
theorem dX10_lays_56 : decode cX10_lays 56 = .ok (.iload_n 1, 1) := by decide +kernel
theorem dX10_lays_57 : decode cX10_lays 57 = .ok (.iconst (-1), 1) := by decide +kernel
theorem dX10_lays_58 : decode cX10_lays 58 = .ok (.iastore, 1) := by decide +kernel
theorem dX10_lays_59 : decode cX10_lays 59 = .ok (.aload_n 0, 1) := by decide +kernel
theorem dX10_lays_60 : decode cX10_lays 60 = .ok (.getfield 136, 3) := by decide +kernel
theorem dX10_lays_63 : decode cX10_lays 63 = .ok (.aload_n 0, 1) := by decide +kernel
theorem dX10_lays_64 : decode cX10_lays 64 = .ok (.getfield 121, 3) := by decide +kernel
theorem dX10_lays_67 : decode cX10_lays 67 = .ok (.if_icmp .ge 48, 3) := by decide +kernel
theorem dX10_lays_70 : decode cX10_lays 70 = .ok (.aload_n 0, 1) := by decide +kernel
theorem dX10_lays_71 : decode cX10_lays 71 = .ok (.getfield 69, 3) := by decide +kernel
theorem dX10_lays_74 : decode cX10_lays 74 = .ok (.aload_n 0, 1) := by decide +kernel
theorem dX10_lays_75 : decode cX10_lays 75 = .ok (.getfield 136, 3) := by decide +kernel
theorem dX10_lays_78 : decode cX10_lays 78 = .ok (.baload, 1) := by decide +kernel
theorem dX10_lays_79 : decode cX10_lays 79 = .ok (.ifCond .eq 36, 3) := by decide +kernel
theorem dX10_lays_82 : decode cX10_lays 82 = .ok (.aload_n 0, 1) := by decide +kernel
theorem dX10_lays_83 : decode cX10_lays 83 = .ok (.getfield 69, 3) := by decide +kernel
theorem dX10_lays_86 : decode cX10_lays 86 = .ok (.aload_n 0, 1) := by decide +kernel
theorem dX10_lays_87 : decode cX10_lays 87 = .ok (.getfield 136, 3) := by decide +kernel
theorem dX10_lays_90 : decode cX10_lays 90 = .ok (.iconst 0, 1) := by decide +kernel
theorem dX10_lays_91 : decode cX10_lays 91 = .ok (.bastore, 1) := by decide +kernel
theorem dX10_lays_92 : decode cX10_lays 92 = .ok (.aload_n 0, 1) := by decide +kernel
theorem dX10_lays_93 : decode cX10_lays 93 = .ok (.dup, 1) := by decide +kernel
theorem dX10_lays_94 : decode cX10_lays 94 = .ok (.getfield 133, 3) := by decide +kernel
end
section
theorem dX10_lays_97 : decode cX10_lays 97 = .ok (.iconst 1, 1) := by decide +kernel
theorem dX10_lays_98 : decode cX10_lays 98 = .ok (.isub, 1) := by decide +kernel
theorem dX10_lays_99 : decode cX10_lays 99 = .ok (.putfield 133, 3) := by decide +kernel
theorem dX10_lays_102 : decode cX10_lays 102 = .ok (.aload_n 0, 1) := by decide +kernel
theorem dX10_lays_103 : decode cX10_lays 103 = .ok (.dup, 1) := by decide +kernel
theorem dX10_lays_104 : decode cX10_lays 104 = .ok (.getfield 136, 3) := by decide +kernel
theorem dX10_lays_107 : decode cX10_lays 107 = .ok (.iconst 1, 1) := by decide +kernel
theorem dX10_lays_108 : decode cX10_lays 108 = .ok (.iadd, 1) := by decide +kernel
theorem dX10_lays_109 : decode cX10_lays 109 = .ok (.putfield 136, 3) := by decide +kernel
theorem dX10_lays_112 : decode cX10_lays 112 = .ok (.goto (-53), 3) := by decide +kernel
theorem dX10_lays_115 : decode cX10_lays 115 = .ok (.iconst 1, 1) := by decide +kernel
theorem dX10_lays_116 : decode cX10_lays 116 = .ok (.ireturn, 1) := by decide +kernel
set_option maxRecDepth 20000 in
theorem ggX10_act_X10_free : GoodIn wsX10_act wsX10_free := goodIn_r _ [8, 9, 10, 11, 12, 13, 14, 15, 16, 17, 7, 18, 19, 20, 21, 22, 23, 2, 24, 25, 26, 27, 28, 29, 30, 31, 32, 33, 34, 35, 36, 37, 38, 39, 40, 41, 42, 43, 44, 45, 46, 47, 48, 49, 76, 77, 78, 79, 80, 81, 82, 83, 84, 85, 86, 87, 88, 89, 90, 91, 92, 93, 94, 95, 96, 97, 98, 99, 100, 101, 102, 103, 104, 105, 106, 107, 108, 109, 110, 111, 112, 113] (by decide +kernel) (by decide +kernel)
set_option maxRecDepth 20000 in
theorem gX10_act_X10_free : GoodIn wsX10_act (wsV RX10 183 RX10 yX10_free wsX10_free) := goodIn_app (goodIn_of _ (by decide +kernel)) ggX10_act_X10_free
set_option maxRecDepth 20000 in
theorem ggX10_act_X10_work : GoodIn wsX10_act wsX10_work := goodIn_r _ [53, 24, 54, 55, 49, 31, 56, 57, 2, 58, 19, 13, 12, 59, 60, 39, 40, 41, 7, 42, 43, 44, 15, 16, 17, 18, 20, 21, 22, 23, 25, 61, 62, 63, 64, 37, 36, 38, 65, 66, 67, 68, 45, 46, 47, 48, 69, 70, 71, 72, 10, 73, 74, 75, 11, 76, 77, 78, 79, 80, 81, 82, 83, 84, 85, 86, 87, 88, 89, 90, 91, 92, 93, 94, 95, 96, 97, 98, 99, 100, 101, 102, 103, 104, 105, 106, 107, 108, 109, 110, 111, 112, 113] (by decide +kernel) (by decide +kernel)
set_option maxRecDepth 20000 in
theorem gX10_act_X10_work : GoodIn wsX10_act (wsV RX10 186 RX10 yX10_work wsX10_work) := goodIn_app (goodIn_of _ (by decide +kernel)) ggX10_act_X10_work
set_option maxRecDepth 20000 in
theorem ggX10_act_X10_isStopped : GoodIn wsX10_act wsX10_isStopped := goodIn_r _ [18, 19, 76, 77, 78, 79, 80, 81, 82, 83, 84, 85, 86, 87, 88, 89, 90, 91, 92, 93, 94, 95, 96, 97, 98, 99, 100, 101, 102, 103, 104, 105, 106, 107, 108, 109, 110, 111, 112, 113] (by decide +kernel) (by decide +kernel)
set_option maxRecDepth 20000 in
theorem gX10_act_X10_isStopped : GoodIn wsX10_act (wsV RX10 163 RX10 yX10_isStopped wsX10_isStopped) := goodIn_app (goodIn_of _ (by decide +kernel)) ggX10_act_X10_isStopped
set_option maxRecDepth 20000 in
theorem ggX10_act_X10_leaves : GoodIn wsX10_act wsX10_leaves := goodIn_r _ [68, 36, 38, 76, 77, 78, 79, 80, 81, 82, 83, 84, 85, 86, 87, 88, 89, 90, 91, 92, 93, 94, 95, 96, 97, 98, 99, 100, 101, 102, 103, 104, 105, 106, 107, 108, 109, 110, 111, 112, 113] (by decide +kernel) (by decide +kernel)
set_option maxRecDepth 20000 in
theorem gX10_act_X10_leaves : GoodIn wsX10_act (wsV RX10 160 RX10 yX10_leaves wsX10_leaves) := goodIn_app (goodIn_of _ (by decide +kernel)) ggX10_act_X10_leaves
set_option maxRecDepth 20000 in
theorem ggX10_act_X10_ends : GoodIn wsX10_act wsX10_ends := goodIn_r _ [23, 2, 24, 25, 76, 77, 78, 79, 80, 81, 82, 83, 84, 85, 86, 87, 88, 89, 90, 91, 92, 93, 94, 95, 96, 97, 98, 99, 100, 101, 102, 103, 104, 105, 106, 107, 108, 109, 110, 111, 112, 113] (by decide +kernel) (by decide +kernel)
set_option maxRecDepth 20000 in
theorem gX10_act_X10_ends : GoodIn wsX10_act (wsV RX10 167 RX10 yX10_ends wsX10_ends) := goodIn_app (goodIn_of _ (by decide +kernel)) ggX10_act_X10_ends
set_option maxRecDepth 20000 in
theorem ggX10_act_X10_lays : GoodIn wsX10_act wsX10_lays := goodIn_r _ [72, 24, 10, 73, 74, 75, 2, 11, 76, 77, 78, 79, 80, 81, 82, 83, 84, 85, 86, 87, 88, 89, 90, 91, 92, 93, 94, 95, 96, 97, 98, 99, 100, 101, 102, 103, 104, 105, 106, 107, 108, 109, 110, 111, 112, 113] (by decide +kernel) (by decide +kernel)
set_option maxRecDepth 20000 in
theorem gX10_act_X10_lays : GoodIn wsX10_act (wsV RX10 180 RX10 yX10_lays wsX10_lays) := goodIn_app (goodIn_of _ (by decide +kernel)) ggX10_act_X10_lays
theorem dX10_act_0 : decode cX10_act 0 = .ok (.aload_n 0, 1) := by decide +kernel
theorem dX10_act_1 : decode cX10_act 1 = .ok (.iload_n 1, 1) := by decide +kernel
theorem dX10_act_2 : decode cX10_act 2 = .ok (.putfield 124, 3) := by decide +kernel
theorem dX10_act_5 : decode cX10_act 5 = .ok (.iconst 0, 1) := by decide +kernel
theorem dX10_act_6 : decode cX10_act 6 = .ok (.istore_n 2, 1) := by decide +kernel
theorem dX10_act_7 : decode cX10_act 7 = .ok (.aload_n 0, 1) := by decide +kernel
theorem dX10_act_8 : decode cX10_act 8 = .ok (.getfield 45, 3) := by decide +kernel
theorem dX10_act_11 : decode cX10_act 11 = .ok (.iload_n 1, 1) := by decide +kernel
theorem dX10_act_12 : decode cX10_act 12 = .ok (.iaload, 1) := by decide +kernel
theorem dX10_act_13 : decode cX10_act 13 = .ok (.ifCond .ne 12, 3) := by decide +kernel
theorem dX10_act_16 : decode cX10_act 16 = .ok (.aload_n 0, 1) := by decide +kernel
theorem dX10_act_17 : decode cX10_act 17 = .ok (.iload_n 1, 1) := by decide +kernel
theorem dX10_act_18 : decode cX10_act 18 = .ok (.invokevirtual 183, 3) := by decide +kernel
theorem dX10_act_21 : decode cX10_act 21 = .ok (.istore_n 2, 1) := by decide +kernel
theorem dX10_act_22 : decode cX10_act 22 = .ok (.goto 70, 3) := by decide +kernel
theorem dX10_act_25 : decode cX10_act 25 = .ok (.aload_n 0, 1) := by decide +kernel
theorem dX10_act_26 : decode cX10_act 26 = .ok (.getfield 45, 3) := by decide +kernel
theorem dX10_act_29 : decode cX10_act 29 = .ok (.iload_n 1, 1) := by decide +kernel
theorem dX10_act_30 : decode cX10_act 30 = .ok (.iaload, 1) := by decide +kernel
theorem dX10_act_31 : decode cX10_act 31 = .ok (.iconst 2, 1) := by decide +kernel
theorem dX10_act_32 : decode cX10_act 32 = .ok (.if_icmp .ne 12, 3) := by decide +kernel
theorem dX10_act_35 : decode cX10_act 35 = .ok (.aload_n 0, 1) := by decide +kernel
theorem dX10_act_36 : decode cX10_act 36 = .ok (.iload_n 1, 1) := by decide +kernel
theorem dX10_act_37 : decode cX10_act 37 = .ok (.invokevirtual 186, 3) := by decide +kernel
theorem dX10_act_40 : decode cX10_act 40 = .ok (.istore_n 2, 1) := by decide +kernel
theorem dX10_act_41 : decode cX10_act 41 = .ok (.goto 51, 3) := by decide +kernel
theorem dX10_act_44 : decode cX10_act 44 = .ok (.aload_n 0, 1) := by decide +kernel
theorem dX10_act_45 : decode cX10_act 45 = .ok (.getfield 45, 3) := by decide +kernel
theorem dX10_act_48 : decode cX10_act 48 = .ok (.iload_n 1, 1) := by decide +kernel
theorem dX10_act_49 : decode cX10_act 49 = .ok (.iaload, 1) := by decide +kernel
theorem dX10_act_50 : decode cX10_act 50 = .ok (.iconst 4, 1) := by decide +kernel
theorem dX10_act_51 : decode cX10_act 51 = .ok (.if_icmp .eq 25, 3) := by decide +kernel
theorem dX10_act_54 : decode cX10_act 54 = .ok (.aload_n 0, 1) := by decide +kernel
theorem dX10_act_55 : decode cX10_act 55 = .ok (.invokevirtual 163, 3) := by decide +kernel
theorem dX10_act_58 : decode cX10_act 58 = .ok (.ifCond .eq 18, 3) := by decide +kernel
theorem dX10_act_61 : decode cX10_act 61 = .ok (.aload_n 0, 1) := by decide +kernel
theorem dX10_act_62 : decode cX10_act 62 = .ok (.iload_n 1, 1) := by decide +kernel
theorem dX10_act_63 : decode cX10_act 63 = .ok (.invokevirtual 160, 3) := by decide +kernel
theorem dX10_act_66 : decode cX10_act 66 = .ok (.aload_n 0, 1) := by decide +kernel
theorem dX10_act_67 : decode cX10_act 67 = .ok (.iload_n 1, 1) := by decide +kernel
theorem dX10_act_68 : decode cX10_act 68 = .ok (.invokevirtual 167, 3) := by decide +kernel
theorem dX10_act_71 : decode cX10_act 71 = .ok (.iconst 1, 1) := by decide +kernel
theorem dX10_act_72 : decode cX10_act 72 = .ok (.istore_n 2, 1) := by decide +kernel
theorem dX10_act_73 : decode cX10_act 73 = .ok (.goto 19, 3) := by decide +kernel
theorem dX10_act_76 : decode cX10_act 76 = .ok (.aload_n 0, 1) := by decide +kernel
theorem dX10_act_77 : decode cX10_act 77 = .ok (.getfield 45, 3) := by decide +kernel
theorem dX10_act_80 : decode cX10_act 80 = .ok (.iload_n 1, 1) := by decide +kernel
theorem dX10_act_81 : decode cX10_act 81 = .ok (.iaload, 1) := by decide +kernel
theorem dX10_act_82 : decode cX10_act 82 = .ok (.iconst 3, 1) := by decide +kernel
theorem dX10_act_83 : decode cX10_act 83 = .ok (.if_icmp .ne 9, 3) := by decide +kernel
theorem dX10_act_86 : decode cX10_act 86 = .ok (.aload_n 0, 1) := by decide +kernel
theorem dX10_act_87 : decode cX10_act 87 = .ok (.iload_n 1, 1) := by decide +kernel
theorem dX10_act_88 : decode cX10_act 88 = .ok (.invokevirtual 180, 3) := by decide +kernel
theorem dX10_act_91 : decode cX10_act 91 = .ok (.istore_n 2, 1) := by decide +kernel
theorem dX10_act_92 : decode cX10_act 92 = .ok (.aload_n 0, 1) := by decide +kernel
theorem dX10_act_93 : decode cX10_act 93 = .ok (.dup, 1) := by decide +kernel
theorem dX10_act_94 : decode cX10_act 94 = .ok (.getfield 154, 3) := by decide +kernel
theorem dX10_act_97 : decode cX10_act 97 = .ok (.iload_n 2, 1) := by decide +kernel
theorem dX10_act_98 : decode cX10_act 98 = .ok (.iadd, 1) := by decide +kernel
theorem dX10_act_99 : decode cX10_act 99 = .ok (.putfield 154, 3) := by decide +kernel
theorem dX10_act_102 : decode cX10_act 102 = .ok (.iload_n 2, 1) := by decide +kernel
theorem dX10_act_103 : decode cX10_act 103 = .ok (.ireturn, 1) := by decide +kernel
set_option maxRecDepth 20000 in
theorem ggX10_isThread_X10_in : GoodIn wsX10_isThread wsX10_in := goodIn_r _ [6] (by decide +kernel) (by decide +kernel)
set_option maxRecDepth 20000 in
theorem gX10_isThread_X10_in : GoodIn wsX10_isThread (va_wsS RX10 78 yX10_in wsX10_in) := goodIn_app (goodIn_of _ (by decide +kernel)) ggX10_isThread_X10_in
theorem dX10_isThread_0 : decode cX10_isThread 0 = .ok (.iload_n 1, 1) := by decide +kernel
theorem dX10_isThread_1 : decode cX10_isThread 1 = .ok (.iconst 0, 1) := by decide +kernel
theorem dX10_isThread_2 : decode cX10_isThread 2 = .ok (.aload_n 0, 1) := by decide +kernel
theorem dX10_isThread_3 : decode cX10_isThread 3 = .ok (.getfield 82, 3) := by decide +kernel
theorem dX10_isThread_6 : decode cX10_isThread 6 = .ok (.ifCond .eq 12, 3) := by decide +kernel
theorem dX10_isThread_9 : decode cX10_isThread 9 = .ok (.aload_n 0, 1) := by decide +kernel
theorem dX10_isThread_10 : decode cX10_isThread 10 = .ok (.getfield 118, 3) := by decide +kernel
theorem dX10_isThread_13 : decode cX10_isThread 13 = .ok (.iconst 1, 1) := by decide +kernel
theorem dX10_isThread_14 : decode cX10_isThread 14 = .ok (.isub, 1) := by decide +kernel
theorem dX10_isThread_15 : decode cX10_isThread 15 = .ok (.goto 4, 3) := by decide +kernel
theorem dX10_isThread_18 : decode cX10_isThread 18 = .ok (.iconst 5, 1) := by decide +kernel
theorem dX10_isThread_19 : decode cX10_isThread 19 = .ok (.invokestatic 78, 3) := by decide +kernel
theorem dX10_isThread_22 : decode cX10_isThread 22 = .ok (.ireturn, 1) := by decide +kernel
set_option maxRecDepth 20000 in
theorem ggX10_turn_X10_isThread : GoodIn wsX10_turn wsX10_isThread := goodIn_r _ [6, 1, 7, 8, 9, 5, 10, 88, 89, 90, 91, 92, 93, 94, 95, 96, 97, 98, 99, 100, 101, 102, 103, 104, 105, 106, 107, 108, 109, 110, 111, 112, 113, 114, 115, 116, 117, 118, 119, 120, 121, 122, 123, 124, 125] (by decide +kernel) (by decide +kernel)
set_option maxRecDepth 20000 in
theorem gX10_turn_X10_isThread : GoodIn wsX10_turn (wsV RX10 189 RX10 yX10_isThread wsX10_isThread) := goodIn_app (goodIn_of _ (by decide +kernel)) ggX10_turn_X10_isThread
set_option maxRecDepth 20000 in
theorem ggX10_turn_X10_act : GoodIn wsX10_turn wsX10_act := goodIn_r _ [14, 15, 16, 17, 18, 19, 20, 5, 21, 22, 23, 24, 25, 26, 27, 28, 29, 30, 31, 32, 33, 34, 35, 36, 37, 38, 39, 40, 41, 42, 7, 43, 44, 45, 46, 47, 48, 49, 50, 51, 52, 53, 54, 55, 56, 57, 58, 59, 60, 61, 62, 63, 64, 65, 66, 67, 68, 69, 70, 71, 72, 73, 74, 75, 76, 77, 78, 79, 80, 81, 82, 83, 84, 85, 86, 87, 88, 89, 90, 91, 92, 93, 94, 95, 96, 97, 98, 99, 100, 101, 102, 103, 104, 105, 106, 107, 108, 109, 110, 111, 112, 113, 114, 115, 116, 117, 118, 119, 120, 121, 122, 123, 124, 125] (by decide +kernel) (by decide +kernel)
set_option maxRecDepth 20000 in
theorem gX10_turn_X10_act : GoodIn wsX10_turn (wsV RX10 193 RX10 yX10_act wsX10_act) := goodIn_app (goodIn_of _ (by decide +kernel)) ggX10_turn_X10_act
theorem dX10_turn_0 : decode cX10_turn 0 = .ok (.aload_n 0, 1) := by decide +kernel
theorem dX10_turn_1 : decode cX10_turn 1 = .ok (.iload_n 1, 1) := by decide +kernel
theorem dX10_turn_2 : decode cX10_turn 2 = .ok (.invokevirtual 189, 3) := by decide +kernel
theorem dX10_turn_5 : decode cX10_turn 5 = .ok (.ifCond .ne 8, 3) := by decide +kernel
theorem dX10_turn_8 : decode cX10_turn 8 = .ok (.bipush (-2), 2) := by decide +kernel
theorem dX10_turn_10 : decode cX10_turn 10 = .ok (.goto 20, 3) := by decide +kernel
theorem dX10_turn_13 : decode cX10_turn 13 = .ok (.aload_n 0, 1) := by decide +kernel
theorem dX10_turn_14 : decode cX10_turn 14 = .ok (.getfield 82, 3) := by decide +kernel
theorem dX10_turn_17 : decode cX10_turn 17 = .ok (.ifCond .ne 8, 3) := by decide +kernel
theorem dX10_turn_20 : decode cX10_turn 20 = .ok (.bipush (-3), 2) := by decide +kernel
theorem dX10_turn_22 : decode cX10_turn 22 = .ok (.goto 8, 3) := by decide +kernel
theorem dX10_turn_25 : decode cX10_turn 25 = .ok (.aload_n 0, 1) := by decide +kernel
theorem dX10_turn_26 : decode cX10_turn 26 = .ok (.iload_n 1, 1) := by decide +kernel
theorem dX10_turn_27 : decode cX10_turn 27 = .ok (.invokevirtual 193, 3) := by decide +kernel
theorem dX10_turn_30 : decode cX10_turn 30 = .ok (.ireturn, 1) := by decide +kernel
theorem dX10_isOver_0 : decode cX10_isOver 0 = .ok (.iconst 1, 1) := by decide +kernel
theorem dX10_isOver_1 : decode cX10_isOver 1 = .ok (.istore_n 1, 1) := by decide +kernel
theorem dX10_isOver_2 : decode cX10_isOver 2 = .ok (.iconst 0, 1) := by decide +kernel
theorem dX10_isOver_3 : decode cX10_isOver 3 = .ok (.istore_n 2, 1) := by decide +kernel
theorem dX10_isOver_4 : decode cX10_isOver 4 = .ok (.iload_n 2, 1) := by decide +kernel
theorem dX10_isOver_5 : decode cX10_isOver 5 = .ok (.aload_n 0, 1) := by decide +kernel
theorem dX10_isOver_6 : decode cX10_isOver 6 = .ok (.getfield 118, 3) := by decide +kernel
theorem dX10_isOver_9 : decode cX10_isOver 9 = .ok (.if_icmp .ge 29, 3) := by decide +kernel
theorem dX10_isOver_12 : decode cX10_isOver 12 = .ok (.iload_n 1, 1) := by decide +kernel
theorem dX10_isOver_13 : decode cX10_isOver 13 = .ok (.ifCond .eq 17, 3) := by decide +kernel
theorem dX10_isOver_16 : decode cX10_isOver 16 = .ok (.aload_n 0, 1) := by decide +kernel
theorem dX10_isOver_17 : decode cX10_isOver 17 = .ok (.getfield 45, 3) := by decide +kernel
theorem dX10_isOver_20 : decode cX10_isOver 20 = .ok (.iload_n 2, 1) := by decide +kernel
theorem dX10_isOver_21 : decode cX10_isOver 21 = .ok (.iaload, 1) := by decide +kernel
theorem dX10_isOver_22 : decode cX10_isOver 22 = .ok (.iconst 4, 1) := by decide +kernel
theorem dX10_isOver_23 : decode cX10_isOver 23 = .ok (.if_icmp .ne 7, 3) := by decide +kernel
theorem dX10_isOver_26 : decode cX10_isOver 26 = .ok (.iconst 1, 1) := by decide +kernel
theorem dX10_isOver_27 : decode cX10_isOver 27 = .ok (.goto 4, 3) := by decide +kernel
theorem dX10_isOver_30 : decode cX10_isOver 30 = .ok (.iconst 0, 1) := by decide +kernel
theorem dX10_isOver_31 : decode cX10_isOver 31 = .ok (.istore_n 1, 1) := by decide +kernel
theorem dX10_isOver_32 : decode cX10_isOver 32 = .ok (.iinc 2 1, 3) := by decide +kernel
theorem dX10_isOver_35 : decode cX10_isOver 35 = .ok (.goto (-31), 3) := by decide +kernel
theorem dX10_isOver_38 : decode cX10_isOver 38 = .ok (.iload_n 1, 1) := by decide +kernel
theorem dX10_isOver_39 : decode cX10_isOver 39 = .ok (.ireturn, 1) := by decide +kernel
set_option maxRecDepth 20000 in
theorem ggX10_run_X10_in : GoodIn wsX10_run wsX10_in := goodIn_r _ [7] (by decide +kernel) (by decide +kernel)
set_option maxRecDepth 20000 in
theorem gX10_run_X10_in : GoodIn wsX10_run (va_wsS RX10 78 yX10_in wsX10_in) := goodIn_app (goodIn_of _ (by decide +kernel)) ggX10_run_X10_in
set_option maxRecDepth 20000 in
theorem ggX10_run_X10_isOver : GoodIn wsX10_run wsX10_isOver := goodIn_r _ [11, 3, 12, 88, 89, 90, 91, 92, 93, 94, 95, 96, 97, 98, 99, 100, 101, 102, 103, 104, 105, 106, 107, 108, 109, 110, 111, 112, 113, 114, 115, 116, 117, 118, 119, 120, 121, 122, 123, 124, 125] (by decide +kernel) (by decide +kernel)
set_option maxRecDepth 20000 in
theorem gX10_run_X10_isOver : GoodIn wsX10_run (wsV RX10 196 RX10 yX10_isOver wsX10_isOver) := goodIn_app (goodIn_of _ (by decide +kernel)) ggX10_run_X10_isOver
set_option maxRecDepth 20000 in
theorem ggX10_run_X10_act : GoodIn wsX10_run wsX10_act := goodIn_r _ [16, 2, 12, 17, 18, 19, 20, 6, 21, 22, 23, 24, 25, 26, 27, 28, 29, 30, 31, 32, 33, 34, 35, 36, 37, 38, 39, 40, 41, 42, 3, 43, 44, 45, 46, 47, 48, 49, 50, 51, 52, 53, 54, 55, 56, 57, 58, 59, 60, 61, 62, 63, 64, 65, 66, 67, 68, 69, 70, 71, 72, 73, 74, 75, 76, 77, 78, 79, 80, 81, 82, 83, 84, 85, 86, 87, 88, 89, 90, 91, 92, 93, 94, 95, 96, 97, 98, 99, 100, 101, 102, 103, 104, 105, 106, 107, 108, 109, 110, 111, 112, 113, 114, 115, 116, 117, 118, 119, 120, 121, 122, 123, 124, 125] (by decide +kernel) (by decide +kernel)
set_option maxRecDepth 20000 in
theorem gX10_run_X10_act : GoodIn wsX10_run (wsV RX10 193 RX10 yX10_act wsX10_act) := goodIn_app (goodIn_of _ (by decide +kernel)) ggX10_run_X10_act
theorem dX10_run_0 : decode cX10_run 0 = .ok (.iload_n 1, 1) := by decide +kernel
theorem dX10_run_1 : decode cX10_run 1 = .ok (.iconst 0, 1) := by decide +kernel
theorem dX10_run_2 : decode cX10_run 2 = .ok (.sipush 400, 3) := by decide +kernel
theorem dX10_run_5 : decode cX10_run 5 = .ok (.invokestatic 78, 3) := by decide +kernel
theorem dX10_run_8 : decode cX10_run 8 = .ok (.ifCond .ne 6, 3) := by decide +kernel
theorem dX10_run_11 : decode cX10_run 11 = .ok (.bipush (-2), 2) := by decide +kernel
theorem dX10_run_13 : decode cX10_run 13 = .ok (.ireturn, 1) := by decide +kernel
theorem dX10_run_14 : decode cX10_run 14 = .ok (.aload_n 0, 1) := by decide +kernel
theorem dX10_run_15 : decode cX10_run 15 = .ok (.getfield 82, 3) := by decide +kernel
theorem dX10_run_18 : decode cX10_run 18 = .ok (.ifCond .ne 6, 3) := by decide +kernel
theorem dX10_run_21 : decode cX10_run 21 = .ok (.bipush (-3), 2) := by decide +kernel
theorem dX10_run_23 : decode cX10_run 23 = .ok (.ireturn, 1) := by decide +kernel
theorem dX10_run_24 : decode cX10_run 24 = .ok (.iconst 0, 1) := by decide +kernel
theorem dX10_run_25 : decode cX10_run 25 = .ok (.istore_n 2, 1) := by decide +kernel
theorem dX10_run_26 : decode cX10_run 26 = .ok (.iconst 0, 1) := by decide +kernel
theorem dX10_run_27 : decode cX10_run 27 = .ok (.istore_n 3, 1) := by decide +kernel
theorem dX10_run_28 : decode cX10_run 28 = .ok (.iload_n 3, 1) := by decide +kernel
theorem dX10_run_29 : decode cX10_run 29 = .ok (.iload_n 1, 1) := by decide +kernel
theorem dX10_run_30 : decode cX10_run 30 = .ok (.if_icmp .ge 34, 3) := by decide +kernel
theorem dX10_run_33 : decode cX10_run 33 = .ok (.aload_n 0, 1) := by decide +kernel
theorem dX10_run_34 : decode cX10_run 34 = .ok (.invokevirtual 196, 3) := by decide +kernel
theorem dX10_run_37 : decode cX10_run 37 = .ok (.ifCond .ne 27, 3) := by decide +kernel
theorem dX10_run_40 : decode cX10_run 40 = .ok (.iload_n 2, 1) := by decide +kernel
theorem dX10_run_41 : decode cX10_run 41 = .ok (.aload_n 0, 1) := by decide +kernel
theorem dX10_run_42 : decode cX10_run 42 = .ok (.aload_n 0, 1) := by decide +kernel
theorem dX10_run_43 : decode cX10_run 43 = .ok (.getfield 124, 3) := by decide +kernel
theorem dX10_run_46 : decode cX10_run 46 = .ok (.iconst 1, 1) := by decide +kernel
theorem dX10_run_47 : decode cX10_run 47 = .ok (.iadd, 1) := by decide +kernel
theorem dX10_run_48 : decode cX10_run 48 = .ok (.aload_n 0, 1) := by decide +kernel
theorem dX10_run_49 : decode cX10_run 49 = .ok (.getfield 118, 3) := by decide +kernel
theorem dX10_run_52 : decode cX10_run 52 = .ok (.irem, 1) := by decide +kernel
theorem dX10_run_53 : decode cX10_run 53 = .ok (.invokevirtual 193, 3) := by decide +kernel
theorem dX10_run_56 : decode cX10_run 56 = .ok (.iadd, 1) := by decide +kernel
theorem dX10_run_57 : decode cX10_run 57 = .ok (.istore_n 2, 1) := by decide +kernel
theorem dX10_run_58 : decode cX10_run 58 = .ok (.iinc 3 1, 3) := by decide +kernel
theorem dX10_run_61 : decode cX10_run 61 = .ok (.goto (-33), 3) := by decide +kernel
theorem dX10_run_64 : decode cX10_run 64 = .ok (.iload_n 2, 1) := by decide +kernel
theorem dX10_run_65 : decode cX10_run 65 = .ok (.ireturn, 1) := by decide +kernel
set_option maxRecDepth 20000 in
theorem ggX10_interrupt_X10_isThread : GoodIn wsX10_interrupt wsX10_isThread := goodIn_r _ [8, 1, 9, 10, 11, 7, 12, 13, 14, 15, 16, 17, 18, 19, 20, 21, 22, 23, 24, 25, 26, 27, 28, 29, 30, 31, 32, 33, 34, 35, 36, 37, 38, 39, 40, 41, 42, 43, 44, 45, 46, 47, 48, 49, 50] (by decide +kernel) (by decide +kernel)
set_option maxRecDepth 20000 in
theorem gX10_interrupt_X10_isThread : GoodIn wsX10_interrupt (wsV RX10 189 RX10 yX10_isThread wsX10_isThread) := goodIn_app (goodIn_of _ (by decide +kernel)) ggX10_interrupt_X10_isThread
theorem dX10_interrupt_0 : decode cX10_interrupt 0 = .ok (.aload_n 0, 1) := by decide +kernel
theorem dX10_interrupt_1 : decode cX10_interrupt 1 = .ok (.iload_n 1, 1) := by decide +kernel
theorem dX10_interrupt_2 : decode cX10_interrupt 2 = .ok (.invokevirtual 189, 3) := by decide +kernel
theorem dX10_interrupt_5 : decode cX10_interrupt 5 = .ok (.ifCond .ne 6, 3) := by decide +kernel
theorem dX10_interrupt_8 : decode cX10_interrupt 8 = .ok (.bipush (-2), 2) := by decide +kernel
theorem dX10_interrupt_10 : decode cX10_interrupt 10 = .ok (.ireturn, 1) := by decide +kernel
theorem dX10_interrupt_11 : decode cX10_interrupt 11 = .ok (.aload_n 0, 1) := by decide +kernel
theorem dX10_interrupt_12 : decode cX10_interrupt 12 = .ok (.getfield 82, 3) := by decide +kernel
theorem dX10_interrupt_15 : decode cX10_interrupt 15 = .ok (.ifCond .ne 6, 3) := by decide +kernel
theorem dX10_interrupt_18 : decode cX10_interrupt 18 = .ok (.bipush (-3), 2) := by decide +kernel
theorem dX10_interrupt_20 : decode cX10_interrupt 20 = .ok (.ireturn, 1) := by decide +kernel
theorem dX10_interrupt_21 : decode cX10_interrupt 21 = .ok (.aload_n 0, 1) := by decide +kernel
theorem dX10_interrupt_22 : decode cX10_interrupt 22 = .ok (.getfield 60, 3) := by decide +kernel
theorem dX10_interrupt_25 : decode cX10_interrupt 25 = .ok (.iload_n 1, 1) := by decide +kernel
theorem dX10_interrupt_26 : decode cX10_interrupt 26 = .ok (.baload, 1) := by decide +kernel
theorem dX10_interrupt_27 : decode cX10_interrupt 27 = .ok (.ifCond .ne 13, 3) := by decide +kernel
theorem dX10_interrupt_30 : decode cX10_interrupt 30 = .ok (.aload_n 0, 1) := by decide +kernel
theorem dX10_interrupt_31 : decode cX10_interrupt 31 = .ok (.getfield 45, 3) := by decide +kernel
theorem dX10_interrupt_34 : decode cX10_interrupt 34 = .ok (.iload_n 1, 1) := by decide +kernel
theorem dX10_interrupt_35 : decode cX10_interrupt 35 = .ok (.iaload, 1) := by decide +kernel
theorem dX10_interrupt_36 : decode cX10_interrupt 36 = .ok (.iconst 4, 1) := by decide +kernel
theorem dX10_interrupt_37 : decode cX10_interrupt 37 = .ok (.if_icmp .ne 5, 3) := by decide +kernel
theorem dX10_interrupt_40 : decode cX10_interrupt 40 = .ok (.iconst 0, 1) := by decide +kernel
theorem dX10_interrupt_41 : decode cX10_interrupt 41 = .ok (.ireturn, 1) := by decide +kernel
theorem dX10_interrupt_42 : decode cX10_interrupt 42 = .ok (.aload_n 0, 1) := by decide +kernel
theorem dX10_interrupt_43 : decode cX10_interrupt 43 = .ok (.getfield 60, 3) := by decide +kernel
theorem dX10_interrupt_46 : decode cX10_interrupt 46 = .ok (.iload_n 1, 1) := by decide +kernel
theorem dX10_interrupt_47 : decode cX10_interrupt 47 = .ok (.iconst 1, 1) := by decide +kernel
theorem dX10_interrupt_48 : decode cX10_interrupt 48 = .ok (.bastore, 1) := by decide +kernel
theorem dX10_interrupt_49 : decode cX10_interrupt 49 = .ok (.iconst 1, 1) := by decide +kernel
theorem dX10_interrupt_50 : decode cX10_interrupt 50 = .ok (.ireturn, 1) := by decide +kernel
set_option maxRecDepth 20000 in
theorem ggX10_thread_X10_isThread : GoodIn wsX10_thread wsX10_isThread := goodIn_r _ [11, 1, 12, 13, 14, 10, 15, 16, 17, 18, 19, 20, 21, 22, 23, 24, 25, 26, 27, 28, 29, 30, 31, 32, 33, 34, 35, 36, 37, 38, 39, 40, 41, 42, 43, 44, 45, 46, 47, 48, 49, 50, 51, 52, 53] (by decide +kernel) (by decide +kernel)
set_option maxRecDepth 20000 in
theorem gX10_thread_X10_isThread : GoodIn wsX10_thread (wsV RX10 189 RX10 yX10_isThread wsX10_isThread) := goodIn_app (goodIn_of _ (by decide +kernel)) ggX10_thread_X10_isThread
set_option maxRecDepth 20000 in
theorem ggX10_thread_X10_in : GoodIn wsX10_thread wsX10_in := goodIn_r _ [15] (by decide +kernel) (by decide +kernel)
set_option maxRecDepth 20000 in
theorem gX10_thread_X10_in : GoodIn wsX10_thread (va_wsS RX10 78 yX10_in wsX10_in) := goodIn_app (goodIn_of _ (by decide +kernel)) ggX10_thread_X10_in
theorem dX10_thread_0 : decode cX10_thread 0 = .ok (.aload_n 0, 1) := by decide +kernel
theorem dX10_thread_1 : decode cX10_thread 1 = .ok (.iload_n 1, 1) := by decide +kernel
theorem dX10_thread_2 : decode cX10_thread 2 = .ok (.invokevirtual 189, 3) := by decide +kernel
theorem dX10_thread_5 : decode cX10_thread 5 = .ok (.ifCond .eq 12, 3) := by decide +kernel
theorem dX10_thread_8 : decode cX10_thread 8 = .ok (.iload_n 2, 1) := by decide +kernel
theorem dX10_thread_9 : decode cX10_thread 9 = .ok (.iconst 0, 1) := by decide +kernel
theorem dX10_thread_10 : decode cX10_thread 10 = .ok (.iconst 4, 1) := by decide +kernel
theorem dX10_thread_11 : decode cX10_thread 11 = .ok (.invokestatic 78, 3) := by decide +kernel
theorem dX10_thread_14 : decode cX10_thread 14 = .ok (.ifCond .ne 6, 3) := by decide +kernel
theorem dX10_thread_17 : decode cX10_thread 17 = .ok (.bipush (-2), 2) := by decide +kernel
theorem dX10_thread_19 : decode cX10_thread 19 = .ok (.ireturn, 1) := by decide +kernel
theorem dX10_thread_20 : decode cX10_thread 20 = .ok (.aload_n 0, 1) := by decide +kernel
theorem dX10_thread_21 : decode cX10_thread 21 = .ok (.getfield 82, 3) := by decide +kernel
theorem dX10_thread_24 : decode cX10_thread 24 = .ok (.ifCond .ne 6, 3) := by decide +kernel
theorem dX10_thread_27 : decode cX10_thread 27 = .ok (.bipush (-3), 2) := by decide +kernel
theorem dX10_thread_29 : decode cX10_thread 29 = .ok (.ireturn, 1) := by decide +kernel
theorem dX10_thread_30 : decode cX10_thread 30 = .ok (.iload_n 2, 1) := by decide +kernel
theorem dX10_thread_31 : decode cX10_thread 31 = .ok (.tableswitch 71 0 3 #[29, 36, 43, 64], 29) := by decide +kernel
theorem dX10_thread_60 : decode cX10_thread 60 = .ok (.aload_n 0, 1) := by decide +kernel
theorem dX10_thread_61 : decode cX10_thread 61 = .ok (.getfield 45, 3) := by decide +kernel
theorem dX10_thread_64 : decode cX10_thread 64 = .ok (.iload_n 1, 1) := by decide +kernel
theorem dX10_thread_65 : decode cX10_thread 65 = .ok (.iaload, 1) := by decide +kernel
theorem dX10_thread_66 : decode cX10_thread 66 = .ok (.ireturn, 1) := by decide +kernel
theorem dX10_thread_67 : decode cX10_thread 67 = .ok (.aload_n 0, 1) := by decide +kernel
theorem dX10_thread_68 : decode cX10_thread 68 = .ok (.getfield 48, 3) := by decide +kernel
theorem dX10_thread_71 : decode cX10_thread 71 = .ok (.iload_n 1, 1) := by decide +kernel
theorem dX10_thread_72 : decode cX10_thread 72 = .ok (.iaload, 1) := by decide +kernel
theorem dX10_thread_73 : decode cX10_thread 73 = .ok (.ireturn, 1) := by decide +kernel
theorem dX10_thread_74 : decode cX10_thread 74 = .ok (.aload_n 0, 1) := by decide +kernel
theorem dX10_thread_75 : decode cX10_thread 75 = .ok (.getfield 45, 3) := by decide +kernel
theorem dX10_thread_78 : decode cX10_thread 78 = .ok (.iload_n 1, 1) := by decide +kernel
theorem dX10_thread_79 : decode cX10_thread 79 = .ok (.iaload, 1) := by decide +kernel
theorem dX10_thread_80 : decode cX10_thread 80 = .ok (.iconst 2, 1) := by decide +kernel
theorem dX10_thread_81 : decode cX10_thread 81 = .ok (.if_icmp .ne 12, 3) := by decide +kernel
theorem dX10_thread_84 : decode cX10_thread 84 = .ok (.aload_n 0, 1) := by decide +kernel
theorem dX10_thread_85 : decode cX10_thread 85 = .ok (.getfield 51, 3) := by decide +kernel
theorem dX10_thread_88 : decode cX10_thread 88 = .ok (.iload_n 1, 1) := by decide +kernel
theorem dX10_thread_89 : decode cX10_thread 89 = .ok (.iaload, 1) := by decide +kernel
theorem dX10_thread_90 : decode cX10_thread 90 = .ok (.goto 4, 3) := by decide +kernel
theorem dX10_thread_93 : decode cX10_thread 93 = .ok (.iconst (-1), 1) := by decide +kernel
theorem dX10_thread_94 : decode cX10_thread 94 = .ok (.ireturn, 1) := by decide +kernel
theorem dX10_thread_95 : decode cX10_thread 95 = .ok (.aload_n 0, 1) := by decide +kernel
theorem dX10_thread_96 : decode cX10_thread 96 = .ok (.getfield 54, 3) := by decide +kernel
theorem dX10_thread_99 : decode cX10_thread 99 = .ok (.iload_n 1, 1) := by decide +kernel
theorem dX10_thread_100 : decode cX10_thread 100 = .ok (.iaload, 1) := by decide +kernel
theorem dX10_thread_101 : decode cX10_thread 101 = .ok (.ireturn, 1) := by decide +kernel
theorem dX10_thread_102 : decode cX10_thread 102 = .ok (.aload_n 0, 1) := by decide +kernel
theorem dX10_thread_103 : decode cX10_thread 103 = .ok (.getfield 57, 3) := by decide +kernel
theorem dX10_thread_106 : decode cX10_thread 106 = .ok (.iload_n 1, 1) := by decide +kernel
theorem dX10_thread_107 : decode cX10_thread 107 = .ok (.iaload, 1) := by decide +kernel
theorem dX10_thread_108 : decode cX10_thread 108 = .ok (.ireturn, 1) := by decide +kernel
theorem dX10_outSize_0 : decode cX10_outSize 0 = .ok (.aload_n 0, 1) := by decide +kernel
theorem dX10_outSize_1 : decode cX10_outSize 1 = .ok (.getfield 82, 3) := by decide +kernel
theorem dX10_outSize_4 : decode cX10_outSize 4 = .ok (.ifCond .eq 24, 3) := by decide +kernel
theorem dX10_outSize_7 : decode cX10_outSize 7 = .ok (.aload_n 0, 1) := by decide +kernel
theorem dX10_outSize_8 : decode cX10_outSize 8 = .ok (.getfield 136, 3) := by decide +kernel
theorem dX10_outSize_11 : decode cX10_outSize 11 = .ok (.ifCond .le 17, 3) := by decide +kernel
theorem dX10_outSize_14 : decode cX10_outSize 14 = .ok (.aload_n 0, 1) := by decide +kernel
theorem dX10_outSize_15 : decode cX10_outSize 15 = .ok (.getfield 39, 3) := by decide +kernel
theorem dX10_outSize_18 : decode cX10_outSize 18 = .ok (.aload_n 0, 1) := by decide +kernel
theorem dX10_outSize_19 : decode cX10_outSize 19 = .ok (.getfield 136, 3) := by decide +kernel
theorem dX10_outSize_22 : decode cX10_outSize 22 = .ok (.iconst 1, 1) := by decide +kernel
theorem dX10_outSize_23 : decode cX10_outSize 23 = .ok (.isub, 1) := by decide +kernel
theorem dX10_outSize_24 : decode cX10_outSize 24 = .ok (.iaload, 1) := by decide +kernel
theorem dX10_outSize_25 : decode cX10_outSize 25 = .ok (.goto 4, 3) := by decide +kernel
theorem dX10_outSize_28 : decode cX10_outSize 28 = .ok (.iconst 0, 1) := by decide +kernel
theorem dX10_outSize_29 : decode cX10_outSize 29 = .ok (.ireturn, 1) := by decide +kernel
set_option maxRecDepth 20000 in
theorem ggX10_out_X10_outSize : GoodIn wsX10_out wsX10_outSize := goodIn_r _ [6, 7, 8, 9, 13, 14, 15, 16, 17, 18, 19, 20, 21, 22, 23, 24, 25, 26, 27, 28, 29, 30, 31, 32, 33, 34, 35, 36, 37, 38, 39, 40, 41, 42, 43, 44, 45, 46, 47, 48, 49, 50] (by decide +kernel) (by decide +kernel)
set_option maxRecDepth 20000 in
theorem gX10_out_X10_outSize : GoodIn wsX10_out (wsV RX10 199 RX10 yX10_outSize wsX10_outSize) := goodIn_app (goodIn_of _ (by decide +kernel)) ggX10_out_X10_outSize
set_option maxRecDepth 20000 in
theorem ggX10_out_X10_in : GoodIn wsX10_out wsX10_in := goodIn_r _ [12] (by decide +kernel) (by decide +kernel)
set_option maxRecDepth 20000 in
theorem gX10_out_X10_in : GoodIn wsX10_out (va_wsS RX10 78 yX10_in wsX10_in) := goodIn_app (goodIn_of _ (by decide +kernel)) ggX10_out_X10_in
theorem dX10_out_0 : decode cX10_out 0 = .ok (.iload_n 1, 1) := by decide +kernel
theorem dX10_out_1 : decode cX10_out 1 = .ok (.iconst 0, 1) := by decide +kernel
theorem dX10_out_2 : decode cX10_out 2 = .ok (.aload_n 0, 1) := by decide +kernel
theorem dX10_out_3 : decode cX10_out 3 = .ok (.invokevirtual 199, 3) := by decide +kernel
theorem dX10_out_6 : decode cX10_out 6 = .ok (.iconst 1, 1) := by decide +kernel
theorem dX10_out_7 : decode cX10_out 7 = .ok (.isub, 1) := by decide +kernel
theorem dX10_out_8 : decode cX10_out 8 = .ok (.invokestatic 78, 3) := by decide +kernel
theorem dX10_out_11 : decode cX10_out 11 = .ok (.ifCond .eq 12, 3) := by decide +kernel
theorem dX10_out_14 : decode cX10_out 14 = .ok (.aload_n 0, 1) := by decide +kernel
theorem dX10_out_15 : decode cX10_out 15 = .ok (.getfield 36, 3) := by decide +kernel
theorem dX10_out_18 : decode cX10_out 18 = .ok (.iload_n 1, 1) := by decide +kernel
theorem dX10_out_19 : decode cX10_out 19 = .ok (.iaload, 1) := by decide +kernel
theorem dX10_out_20 : decode cX10_out 20 = .ok (.goto 4, 3) := by decide +kernel
theorem dX10_out_23 : decode cX10_out 23 = .ok (.iconst (-1), 1) := by decide +kernel
theorem dX10_out_24 : decode cX10_out 24 = .ok (.ireturn, 1) := by decide +kernel
set_option maxRecDepth 20000 in
theorem ggX10_told_X10_in : GoodIn wsX10_told wsX10_in := goodIn_r _ [15] (by decide +kernel) (by decide +kernel)
set_option maxRecDepth 20000 in
theorem gX10_told_X10_in : GoodIn wsX10_told (va_wsS RX10 78 yX10_in wsX10_in) := goodIn_app (goodIn_of _ (by decide +kernel)) ggX10_told_X10_in
set_option maxRecDepth 20000 in
theorem ggX10_told_X10_outSize : GoodIn wsX10_told wsX10_outSize := goodIn_r _ [19, 1, 3, 20, 21, 22, 23, 24, 25, 26, 27, 28, 29, 30, 31, 32, 33, 34, 35, 36, 37, 38, 39, 40, 41, 42, 43, 44, 45, 46, 47, 48, 49, 50, 51, 52, 53, 54, 55, 56, 57, 58] (by decide +kernel) (by decide +kernel)
set_option maxRecDepth 20000 in
theorem gX10_told_X10_outSize : GoodIn wsX10_told (wsV RX10 199 RX10 yX10_outSize wsX10_outSize) := goodIn_app (goodIn_of _ (by decide +kernel)) ggX10_told_X10_outSize
theorem dX10_told_0 : decode cX10_told 0 = .ok (.iload_n 1, 1) := by decide +kernel
theorem dX10_told_1 : decode cX10_told 1 = .ok (.iconst 0, 1) := by decide +kernel
theorem dX10_told_2 : decode cX10_told 2 = .ok (.bipush 10, 2) := by decide +kernel
theorem dX10_told_4 : decode cX10_told 4 = .ok (.invokestatic 78, 3) := by decide +kernel
theorem dX10_told_7 : decode cX10_told 7 = .ok (.ifCond .ne 6, 3) := by decide +kernel
theorem dX10_told_10 : decode cX10_told 10 = .ok (.bipush (-2), 2) := by decide +kernel
theorem dX10_told_12 : decode cX10_told 12 = .ok (.ireturn, 1) := by decide +kernel
theorem dX10_told_13 : decode cX10_told 13 = .ok (.aload_n 0, 1) := by decide +kernel
theorem dX10_told_14 : decode cX10_told 14 = .ok (.getfield 82, 3) := by decide +kernel
theorem dX10_told_17 : decode cX10_told 17 = .ok (.ifCond .ne 6, 3) := by decide +kernel
theorem dX10_told_20 : decode cX10_told 20 = .ok (.bipush (-3), 2) := by decide +kernel
theorem dX10_told_22 : decode cX10_told 22 = .ok (.ireturn, 1) := by decide +kernel
theorem dX10_told_23 : decode cX10_told 23 = .ok (.iload_n 1, 1) := by decide +kernel
theorem dX10_told_24 : decode cX10_told 24 = .ok (.tableswitch 106 0 9 #[56, 61, 66, 71, 76, 81, 86, 91, 96, 101], 56) := by decide +kernel
theorem dX10_told_80 : decode cX10_told 80 = .ok (.aload_n 0, 1) := by decide +kernel
theorem dX10_told_81 : decode cX10_told 81 = .ok (.getfield 121, 3) := by decide +kernel
theorem dX10_told_84 : decode cX10_told 84 = .ok (.ireturn, 1) := by decide +kernel
theorem dX10_told_85 : decode cX10_told 85 = .ok (.aload_n 0, 1) := by decide +kernel
theorem dX10_told_86 : decode cX10_told 86 = .ok (.getfield 136, 3) := by decide +kernel
theorem dX10_told_89 : decode cX10_told 89 = .ok (.ireturn, 1) := by decide +kernel
theorem dX10_told_90 : decode cX10_told 90 = .ok (.aload_n 0, 1) := by decide +kernel
theorem dX10_told_91 : decode cX10_told 91 = .ok (.invokevirtual 199, 3) := by decide +kernel
theorem dX10_told_94 : decode cX10_told 94 = .ok (.ireturn, 1) := by decide +kernel
theorem dX10_told_95 : decode cX10_told 95 = .ok (.aload_n 0, 1) := by decide +kernel
theorem dX10_told_96 : decode cX10_told 96 = .ok (.getfield 139, 3) := by decide +kernel
theorem dX10_told_99 : decode cX10_told 99 = .ok (.ireturn, 1) := by decide +kernel
theorem dX10_told_100 : decode cX10_told 100 = .ok (.aload_n 0, 1) := by decide +kernel
theorem dX10_told_101 : decode cX10_told 101 = .ok (.getfield 142, 3) := by decide +kernel
theorem dX10_told_104 : decode cX10_told 104 = .ok (.ireturn, 1) := by decide +kernel
theorem dX10_told_105 : decode cX10_told 105 = .ok (.aload_n 0, 1) := by decide +kernel
theorem dX10_told_106 : decode cX10_told 106 = .ok (.getfield 133, 3) := by decide +kernel
theorem dX10_told_109 : decode cX10_told 109 = .ok (.ireturn, 1) := by decide +kernel
theorem dX10_told_110 : decode cX10_told 110 = .ok (.aload_n 0, 1) := by decide +kernel
theorem dX10_told_111 : decode cX10_told 111 = .ok (.getfield 145, 3) := by decide +kernel
theorem dX10_told_114 : decode cX10_told 114 = .ok (.ireturn, 1) := by decide +kernel
theorem dX10_told_115 : decode cX10_told 115 = .ok (.aload_n 0, 1) := by decide +kernel
theorem dX10_told_116 : decode cX10_told 116 = .ok (.getfield 148, 3) := by decide +kernel
theorem dX10_told_119 : decode cX10_told 119 = .ok (.ireturn, 1) := by decide +kernel
theorem dX10_told_120 : decode cX10_told 120 = .ok (.aload_n 0, 1) := by decide +kernel
theorem dX10_told_121 : decode cX10_told 121 = .ok (.getfield 151, 3) := by decide +kernel
theorem dX10_told_124 : decode cX10_told 124 = .ok (.ireturn, 1) := by decide +kernel
theorem dX10_told_125 : decode cX10_told 125 = .ok (.aload_n 0, 1) := by decide +kernel
theorem dX10_told_126 : decode cX10_told 126 = .ok (.getfield 154, 3) := by decide +kernel
theorem dX10_told_129 : decode cX10_told 129 = .ok (.ireturn, 1) := by decide +kernel
theorem dX10_told_130 : decode cX10_told 130 = .ok (.aload_n 0, 1) := by decide +kernel
theorem dX10_told_131 : decode cX10_told 131 = .ok (.getfield 130, 3) := by decide +kernel
theorem dX10_told_134 : decode cX10_told 134 = .ok (.ireturn, 1) := by decide +kernel
set_option maxRecDepth 20000 in
theorem ggX10_waiting_X10_in : GoodIn wsX10_waiting wsX10_in := goodIn_r _ [7] (by decide +kernel) (by decide +kernel)
set_option maxRecDepth 20000 in
theorem gX10_waiting_X10_in : GoodIn wsX10_waiting (va_wsS RX10 78 yX10_in wsX10_in) := goodIn_app (goodIn_of _ (by decide +kernel)) ggX10_waiting_X10_in
theorem dX10_waiting_0 : decode cX10_waiting 0 = .ok (.aload_n 0, 1) := by decide +kernel
theorem dX10_waiting_1 : decode cX10_waiting 1 = .ok (.getfield 82, 3) := by decide +kernel
theorem dX10_waiting_4 : decode cX10_waiting 4 = .ok (.ifCond .ne 8, 3) := by decide +kernel
theorem dX10_waiting_7 : decode cX10_waiting 7 = .ok (.bipush (-3), 2) := by decide +kernel
theorem dX10_waiting_9 : decode cX10_waiting 9 = .ok (.goto 27, 3) := by decide +kernel
theorem dX10_waiting_12 : decode cX10_waiting 12 = .ok (.iload_n 1, 1) := by decide +kernel
theorem dX10_waiting_13 : decode cX10_waiting 13 = .ok (.iconst 0, 1) := by decide +kernel
theorem dX10_waiting_14 : decode cX10_waiting 14 = .ok (.aload_n 0, 1) := by decide +kernel
theorem dX10_waiting_15 : decode cX10_waiting 15 = .ok (.getfield 142, 3) := by decide +kernel
theorem dX10_waiting_18 : decode cX10_waiting 18 = .ok (.iconst 1, 1) := by decide +kernel
theorem dX10_waiting_19 : decode cX10_waiting 19 = .ok (.isub, 1) := by decide +kernel
theorem dX10_waiting_20 : decode cX10_waiting 20 = .ok (.invokestatic 78, 3) := by decide +kernel
theorem dX10_waiting_23 : decode cX10_waiting 23 = .ok (.ifCond .eq 12, 3) := by decide +kernel
theorem dX10_waiting_26 : decode cX10_waiting 26 = .ok (.aload_n 0, 1) := by decide +kernel
theorem dX10_waiting_27 : decode cX10_waiting 27 = .ok (.getfield 72, 3) := by decide +kernel
theorem dX10_waiting_30 : decode cX10_waiting 30 = .ok (.iload_n 1, 1) := by decide +kernel
theorem dX10_waiting_31 : decode cX10_waiting 31 = .ok (.iaload, 1) := by decide +kernel
theorem dX10_waiting_32 : decode cX10_waiting 32 = .ok (.goto 4, 3) := by decide +kernel
theorem dX10_waiting_35 : decode cX10_waiting 35 = .ok (.iconst (-1), 1) := by decide +kernel
theorem dX10_waiting_36 : decode cX10_waiting 36 = .ok (.ireturn, 1) := by decide +kernel
set_option maxRecDepth 20000 in
theorem ggX10_close_X10_lengthOf : GoodIn wsX10_close wsX10_lengthOf := goodIn_r _ [11, 12, 13, 19, 20, 21, 22, 23, 24, 25, 26, 27, 28, 29, 30, 31, 32, 33, 34, 35, 36, 37, 38, 39, 40, 41, 42, 43, 44, 45, 46, 47, 48, 49, 50, 51, 52, 53, 54, 55, 56] (by decide +kernel) (by decide +kernel)
set_option maxRecDepth 20000 in
theorem gX10_close_X10_lengthOf : GoodIn wsX10_close (wsV RX10 100 RX10 yX10_lengthOf wsX10_lengthOf) := goodIn_app (goodIn_of _ (by decide +kernel)) ggX10_close_X10_lengthOf
set_option maxRecDepth 20000 in
theorem ggX10_close_X10_ends : GoodIn wsX10_close wsX10_ends := goodIn_r _ [17, 4, 6, 18, 19, 20, 21, 22, 23, 24, 25, 26, 27, 28, 29, 30, 31, 32, 33, 34, 35, 36, 37, 38, 39, 40, 41, 42, 43, 44, 45, 46, 47, 48, 49, 50, 51, 52, 53, 54, 55, 56] (by decide +kernel) (by decide +kernel)
set_option maxRecDepth 20000 in
theorem gX10_close_X10_ends : GoodIn wsX10_close (wsV RX10 167 RX10 yX10_ends wsX10_ends) := goodIn_app (goodIn_of _ (by decide +kernel)) ggX10_close_X10_ends
theorem dX10_close_0 : decode cX10_close 0 = .ok (.aload_n 0, 1) := by decide +kernel
theorem dX10_close_1 : decode cX10_close 1 = .ok (.getfield 82, 3) := by decide +kernel
theorem dX10_close_4 : decode cX10_close 4 = .ok (.ifCond .ne 6, 3) := by decide +kernel
theorem dX10_close_7 : decode cX10_close 7 = .ok (.bipush (-3), 2) := by decide +kernel
theorem dX10_close_9 : decode cX10_close 9 = .ok (.ireturn, 1) := by decide +kernel
theorem dX10_close_10 : decode cX10_close 10 = .ok (.iconst 0, 1) := by decide +kernel
theorem dX10_close_11 : decode cX10_close 11 = .ok (.istore_n 1, 1) := by decide +kernel
theorem dX10_close_12 : decode cX10_close 12 = .ok (.aload_n 0, 1) := by decide +kernel
theorem dX10_close_13 : decode cX10_close 13 = .ok (.iconst 0, 1) := by decide +kernel
theorem dX10_close_14 : decode cX10_close 14 = .ok (.putfield 142, 3) := by decide +kernel
theorem dX10_close_17 : decode cX10_close 17 = .ok (.iconst 0, 1) := by decide +kernel
theorem dX10_close_18 : decode cX10_close 18 = .ok (.istore_n 2, 1) := by decide +kernel
theorem dX10_close_19 : decode cX10_close 19 = .ok (.iload_n 2, 1) := by decide +kernel
theorem dX10_close_20 : decode cX10_close 20 = .ok (.aload_n 0, 1) := by decide +kernel
theorem dX10_close_21 : decode cX10_close 21 = .ok (.getfield 118, 3) := by decide +kernel
theorem dX10_close_24 : decode cX10_close 24 = .ok (.if_icmp .ge 60, 3) := by decide +kernel
theorem dX10_close_27 : decode cX10_close 27 = .ok (.aload_n 0, 1) := by decide +kernel
theorem dX10_close_28 : decode cX10_close 28 = .ok (.getfield 45, 3) := by decide +kernel
theorem dX10_close_31 : decode cX10_close 31 = .ok (.iload_n 2, 1) := by decide +kernel
theorem dX10_close_32 : decode cX10_close 32 = .ok (.iaload, 1) := by decide +kernel
theorem dX10_close_33 : decode cX10_close 33 = .ok (.iconst 4, 1) := by decide +kernel
theorem dX10_close_34 : decode cX10_close 34 = .ok (.if_icmp .eq 44, 3) := by decide +kernel
theorem dX10_close_37 : decode cX10_close 37 = .ok (.aload_n 0, 1) := by decide +kernel
theorem dX10_close_38 : decode cX10_close 38 = .ok (.dup, 1) := by decide +kernel
theorem dX10_close_39 : decode cX10_close 39 = .ok (.getfield 139, 3) := by decide +kernel
theorem dX10_close_42 : decode cX10_close 42 = .ok (.aload_n 0, 1) := by decide +kernel
theorem dX10_close_43 : decode cX10_close 43 = .ok (.getfield 45, 3) := by decide +kernel
theorem dX10_close_46 : decode cX10_close 46 = .ok (.iload_n 2, 1) := by decide +kernel
theorem dX10_close_47 : decode cX10_close 47 = .ok (.iaload, 1) := by decide +kernel
theorem dX10_close_48 : decode cX10_close 48 = .ok (.iconst 2, 1) := by decide +kernel
theorem dX10_close_49 : decode cX10_close 49 = .ok (.if_icmp .ne 16, 3) := by decide +kernel
theorem dX10_close_52 : decode cX10_close 52 = .ok (.aload_n 0, 1) := by decide +kernel
theorem dX10_close_53 : decode cX10_close 53 = .ok (.aload_n 0, 1) := by decide +kernel
theorem dX10_close_54 : decode cX10_close 54 = .ok (.getfield 48, 3) := by decide +kernel
theorem dX10_close_57 : decode cX10_close 57 = .ok (.iload_n 2, 1) := by decide +kernel
theorem dX10_close_58 : decode cX10_close 58 = .ok (.iaload, 1) := by decide +kernel
theorem dX10_close_59 : decode cX10_close 59 = .ok (.invokevirtual 100, 3) := by decide +kernel
theorem dX10_close_62 : decode cX10_close 62 = .ok (.goto 4, 3) := by decide +kernel
theorem dX10_close_65 : decode cX10_close 65 = .ok (.iconst 0, 1) := by decide +kernel
theorem dX10_close_66 : decode cX10_close 66 = .ok (.iadd, 1) := by decide +kernel
theorem dX10_close_67 : decode cX10_close 67 = .ok (.putfield 139, 3) := by decide +kernel
theorem dX10_close_70 : decode cX10_close 70 = .ok (.aload_n 0, 1) := by decide +kernel
theorem dX10_close_71 : decode cX10_close 71 = .ok (.iload_n 2, 1) := by decide +kernel
theorem dX10_close_72 : decode cX10_close 72 = .ok (.invokevirtual 167, 3) := by decide +kernel
theorem dX10_close_75 : decode cX10_close 75 = .ok (.iinc 1 1, 3) := by decide +kernel
theorem dX10_close_78 : decode cX10_close 78 = .ok (.iinc 2 1, 3) := by decide +kernel
theorem dX10_close_81 : decode cX10_close 81 = .ok (.goto (-62), 3) := by decide +kernel
theorem dX10_close_84 : decode cX10_close 84 = .ok (.iload_n 1, 1) := by decide +kernel
theorem dX10_close_85 : decode cX10_close 85 = .ok (.ireturn, 1) := by decide +kernel
theorem dX10_clear_0 : decode cX10_clear 0 = .ok (.aload_n 0, 1) := by decide +kernel
theorem dX10_clear_1 : decode cX10_clear 1 = .ok (.getfield 75, 3) := by decide +kernel
theorem dX10_clear_4 : decode cX10_clear 4 = .ok (.istore_n 1, 1) := by decide +kernel
theorem dX10_clear_5 : decode cX10_clear 5 = .ok (.aload_n 0, 1) := by decide +kernel
theorem dX10_clear_6 : decode cX10_clear 6 = .ok (.iconst 0, 1) := by decide +kernel
theorem dX10_clear_7 : decode cX10_clear 7 = .ok (.putfield 75, 3) := by decide +kernel
theorem dX10_clear_10 : decode cX10_clear 10 = .ok (.aload_n 0, 1) := by decide +kernel
theorem dX10_clear_11 : decode cX10_clear 11 = .ok (.iconst 0, 1) := by decide +kernel
theorem dX10_clear_12 : decode cX10_clear 12 = .ok (.putfield 82, 3) := by decide +kernel
theorem dX10_clear_15 : decode cX10_clear 15 = .ok (.aload_n 0, 1) := by decide +kernel
theorem dX10_clear_16 : decode cX10_clear 16 = .ok (.iconst 0, 1) := by decide +kernel
theorem dX10_clear_17 : decode cX10_clear 17 = .ok (.putfield 86, 3) := by decide +kernel
theorem dX10_clear_20 : decode cX10_clear 20 = .ok (.iconst 0, 1) := by decide +kernel
theorem dX10_clear_21 : decode cX10_clear 21 = .ok (.istore_n 2, 1) := by decide +kernel
theorem dX10_clear_22 : decode cX10_clear 22 = .ok (.iload_n 2, 1) := by decide +kernel
theorem dX10_clear_23 : decode cX10_clear 23 = .ok (.bipush 40, 2) := by decide +kernel
theorem dX10_clear_25 : decode cX10_clear 25 = .ok (.if_icmp .ge 16, 3) := by decide +kernel
theorem dX10_clear_28 : decode cX10_clear 28 = .ok (.aload_n 0, 1) := by decide +kernel
theorem dX10_clear_29 : decode cX10_clear 29 = .ok (.getfield 26, 3) := by decide +kernel
theorem dX10_clear_32 : decode cX10_clear 32 = .ok (.iload_n 2, 1) := by decide +kernel
theorem dX10_clear_33 : decode cX10_clear 33 = .ok (.iconst 0, 1) := by decide +kernel
theorem dX10_clear_34 : decode cX10_clear 34 = .ok (.iastore, 1) := by decide +kernel
theorem dX10_clear_35 : decode cX10_clear 35 = .ok (.iinc 2 1, 3) := by decide +kernel
theorem dX10_clear_38 : decode cX10_clear 38 = .ok (.goto (-16), 3) := by decide +kernel
theorem dX10_clear_41 : decode cX10_clear 41 = .ok (.iload_n 1, 1) := by decide +kernel
theorem dX10_clear_42 : decode cX10_clear 42 = .ok (.ireturn, 1) := by decide +kernel
theorem dJ9_max_7cf53_0 : decode cJ9_max_7cf53 0 = .ok (.iload_n 0, 1) := by decide +kernel
theorem dJ9_max_7cf53_1 : decode cJ9_max_7cf53 1 = .ok (.iload_n 1, 1) := by decide +kernel
theorem dJ9_max_7cf53_2 : decode cJ9_max_7cf53 2 = .ok (.if_icmp .lt 7, 3) := by decide +kernel
theorem dJ9_max_7cf53_5 : decode cJ9_max_7cf53 5 = .ok (.iload_n 0, 1) := by decide +kernel
theorem dJ9_max_7cf53_6 : decode cJ9_max_7cf53 6 = .ok (.goto 4, 3) := by decide +kernel
theorem dJ9_max_7cf53_9 : decode cJ9_max_7cf53 9 = .ok (.iload_n 1, 1) := by decide +kernel
theorem dJ9_max_7cf53_10 : decode cJ9_max_7cf53 10 = .ok (.ireturn, 1) := by decide +kernel
theorem dJ9_min_7cf53_0 : decode cJ9_min_7cf53 0 = .ok (.iload_n 0, 1) := by decide +kernel
theorem dJ9_min_7cf53_1 : decode cJ9_min_7cf53 1 = .ok (.iload_n 1, 1) := by decide +kernel
theorem dJ9_min_7cf53_2 : decode cJ9_min_7cf53 2 = .ok (.if_icmp .gt 7, 3) := by decide +kernel
theorem dJ9_min_7cf53_5 : decode cJ9_min_7cf53 5 = .ok (.iload_n 0, 1) := by decide +kernel
theorem dJ9_min_7cf53_6 : decode cJ9_min_7cf53 6 = .ok (.goto 4, 3) := by decide +kernel
theorem dJ9_min_7cf53_9 : decode cJ9_min_7cf53 9 = .ok (.iload_n 1, 1) := by decide +kernel
theorem dJ9_min_7cf53_10 : decode cJ9_min_7cf53 10 = .ok (.ireturn, 1) := by decide +kernel
set_option maxRecDepth 20000 in
theorem ggL_law_X9_init : GoodIn wsL_law wsX9_init := goodIn_r _ [8, 9, 10, 11, 12, 13, 14, 15, 16, 17, 18, 19, 20, 21, 22, 23, 24, 25, 26, 27, 28, 29, 30, 31, 32, 33, 34, 35, 36, 37, 38, 39, 40, 41, 42, 43, 44, 45, 46, 47, 48, 49, 50, 51, 52, 53, 54, 55, 56, 57, 58, 59, 60, 61, 62, 63, 64, 65, 66, 67, 68, 69, 70, 71, 72, 73, 74, 75, 76, 77, 78, 79, 80, 81, 82, 83, 84, 85, 86, 87, 88, 89, 90, 91, 92, 93, 94, 95, 96, 97, 98, 99, 100, 101, 703, 704, 659, 660, 661, 662, 663, 664, 705, 706, 707, 708, 709, 710, 711, 712, 713, 714, 715, 716, 717, 718, 719, 720, 721, 722, 723, 724, 725, 726, 727, 728, 729, 730, 731, 732, 733, 734, 735, 736, 737, 738, 739, 740, 741, 742, 743, 744, 745, 746, 747, 748, 749, 750, 751] (by decide +kernel) (by decide +kernel)
set_option maxRecDepth 20000 in
theorem gL_law_X9_init : GoodIn wsL_law (wsX9_init) := ggL_law_X9_init
set_option maxRecDepth 20000 in
theorem ggL_law_X10_init : GoodIn wsL_law wsX10_init := goodIn_r _ [104, 105, 10, 11, 36, 106, 107, 108, 109, 110, 111, 112, 50, 113, 114, 115, 116, 117, 118, 119, 120, 121, 122, 123, 124, 125, 126, 127, 665, 666, 667, 668, 669, 670, 671, 672, 673, 674, 675, 676, 677, 678, 679, 680, 681, 682, 683, 684, 685, 686, 687, 688, 689, 690, 691, 692, 693, 694, 695, 696, 697, 698, 699, 700, 701, 702] (by decide +kernel) (by decide +kernel)
set_option maxRecDepth 20000 in
theorem gL_law_X10_init : GoodIn wsL_law (wsX10_init) := ggL_law_X10_init
set_option maxRecDepth 20000 in
theorem ggL_law_X9_type : GoodIn wsL_law wsX9_type := goodIn_r _ [131, 32, 15, 27, 132, 133, 134, 14, 135, 136, 37, 137, 138, 139, 140, 141, 142, 143, 26, 144, 145, 146, 147, 148, 149, 659, 660, 661, 662, 663, 664, 703, 704, 712, 713, 714, 715, 716, 717, 718, 719, 720] (by decide +kernel) (by decide +kernel)
set_option maxRecDepth 20000 in
theorem gL_law_X9_type : GoodIn wsL_law (wsV RL 13 RX9 yX9_type wsX9_type) := goodIn_app (goodIn_of _ (by decide +kernel)) ggL_law_X9_type
set_option maxRecDepth 20000 in
theorem ggL_law_X10_type : GoodIn wsL_law wsX10_type := goodIn_r _ [153, 154, 127, 106, 155, 156, 157, 5, 158, 665, 666, 667, 668, 669, 670, 671, 672, 673, 674, 675, 676, 677, 678, 679, 680, 681, 682, 683, 684, 685, 686, 687, 688, 689, 690, 691, 692, 693, 694, 695, 696, 697, 698, 699, 700, 701, 702] (by decide +kernel) (by decide +kernel)
set_option maxRecDepth 20000 in
theorem gL_law_X10_type : GoodIn wsL_law (wsV RL 17 RX10 yX10_type wsX10_type) := goodIn_app (goodIn_of _ (by decide +kernel)) ggL_law_X10_type
set_option maxRecDepth 20000 in
theorem ggL_law_X9_set : GoodIn wsL_law wsX9_set := goodIn_r _ [162, 19, 32, 27, 163, 164, 165, 18, 166, 167, 168, 141, 142, 143, 26, 144, 145, 169, 170, 171, 172, 41, 42, 43, 44, 659, 660, 661, 662, 663, 664, 712, 713, 714, 715, 716, 717, 718, 719, 720, 705, 706, 707, 708] (by decide +kernel) (by decide +kernel)
set_option maxRecDepth 20000 in
theorem gL_law_X9_set : GoodIn wsL_law (wsV RL 18 RX9 yX9_set wsX9_set) := goodIn_app (goodIn_of _ (by decide +kernel)) ggL_law_X9_set
set_option maxRecDepth 20000 in
theorem ggL_law_X10_set : GoodIn wsL_law wsX10_set := goodIn_r _ [176, 154, 107, 108, 109, 110, 155, 156, 157, 5, 158, 665, 666, 667, 668, 669, 670, 671, 672, 673, 674, 675, 676, 677, 678, 679, 680, 681, 682, 683, 684, 685, 686, 687, 688, 689, 690, 691, 692, 693, 694, 695, 696, 697, 698, 699, 700, 701, 702] (by decide +kernel) (by decide +kernel)
set_option maxRecDepth 20000 in
theorem gL_law_X10_set : GoodIn wsL_law (wsV RL 22 RX10 yX10_set wsX10_set) := goodIn_app (goodIn_of _ (by decide +kernel)) ggL_law_X10_set
set_option maxRecDepth 20000 in
theorem ggL_law_X9_plant : GoodIn wsL_law wsX9_plant := goodIn_r _ [180, 32, 23, 181, 182, 183, 22, 184, 48, 49, 51, 659, 660, 661, 662, 663, 664, 709, 710, 711] (by decide +kernel) (by decide +kernel)
set_option maxRecDepth 20000 in
theorem gL_law_X9_plant : GoodIn wsL_law (wsV RL 23 RX9 yX9_plant wsX9_plant) := goodIn_app (goodIn_of _ (by decide +kernel)) ggL_law_X9_plant
set_option maxRecDepth 20000 in
theorem ggL_law_X10_plant : GoodIn wsL_law wsX10_plant := goodIn_r _ [188, 154, 111, 112, 113, 156, 157, 5, 158, 665, 666, 667, 668, 669, 670, 671, 672, 673, 674, 675, 676, 677, 678, 679, 680, 681, 682, 683, 684, 685, 686, 687, 688, 689, 690, 691, 692, 693, 694, 695, 696, 697, 698, 699, 700, 701, 702] (by decide +kernel) (by decide +kernel)
set_option maxRecDepth 20000 in
theorem gL_law_X10_plant : GoodIn wsL_law (wsV RL 27 RX10 yX10_plant wsX10_plant) := goodIn_app (goodIn_of _ (by decide +kernel)) ggL_law_X10_plant
set_option maxRecDepth 20000 in
theorem ggL_law_X9_begin : GoodIn wsL_law wsX9_begin := goodIn_r _ [192, 32, 27, 31, 19, 193, 194, 195, 26, 196, 145, 197, 198, 60, 58, 57, 199, 200, 201, 202, 59, 203, 204, 205, 18, 206, 41, 207, 147, 148, 14, 149, 136, 208, 209, 210, 211, 212, 213, 214, 215, 216, 217, 218, 219, 220, 221, 222, 223, 224, 225, 226, 227, 228, 229, 230, 231, 42, 232, 233, 234, 235, 236, 237, 238, 239, 37, 240, 241, 242, 243, 56, 244, 245, 246, 247, 248, 249, 250, 251, 252, 253, 254, 255, 43, 256, 257, 258, 259, 44, 260, 261, 262, 30, 263, 264, 66, 70, 74, 78, 265, 266, 267, 268, 269, 270, 271, 272, 273, 82, 274, 275, 276, 277, 278, 279, 280, 281, 282, 283, 284, 285, 286, 287, 288, 69, 289, 290, 291, 292, 293, 294, 73, 295, 91, 296, 297, 298, 299, 300, 301, 77, 302, 95, 303, 304, 305, 306, 307, 659, 660, 661, 662, 663, 664, 712, 713, 714, 715, 716, 717, 718, 719, 720, 705, 706, 707, 708, 703, 704, 721, 722, 723, 724, 725, 726, 727, 728, 729, 730, 731, 732, 733, 744, 745, 746, 747, 748, 749, 750, 751, 734, 735, 736, 737, 738, 739, 740, 741, 742, 743] (by decide +kernel) (by decide +kernel)
set_option maxRecDepth 20000 in
theorem gL_law_X9_begin : GoodIn wsL_law (wsV RL 28 RX9 yX9_begin wsX9_begin) := goodIn_app (goodIn_of _ (by decide +kernel)) ggL_law_X9_begin
set_option maxRecDepth 20000 in
theorem ggL_law_X10_begin : GoodIn wsL_law wsX10_begin := goodIn_r _ [311, 154, 312, 313, 117, 118, 119, 120, 121, 122, 123, 125, 314, 315, 316, 317, 318, 109, 319, 320, 321, 322, 323, 324, 156, 157, 5, 158, 325, 326, 327, 328, 155, 329, 330, 331, 332, 333, 127, 107, 334, 335, 336, 337, 116, 108, 115, 338, 339, 340, 341, 342, 343, 344, 345, 106, 346, 347, 348, 349, 350, 351, 352, 353, 114, 665, 666, 667, 668, 669, 670, 671, 672, 673, 674, 675, 676, 677, 678, 679, 680, 681, 682, 683, 684, 685, 686, 687, 688, 689, 690, 691, 692, 693, 694, 695, 696, 697, 698, 699, 700, 701, 702] (by decide +kernel) (by decide +kernel)
set_option maxRecDepth 20000 in
theorem gL_law_X10_begin : GoodIn wsL_law (wsV RL 31 RX10 yX10_begin wsX10_begin) := goodIn_app (goodIn_of _ (by decide +kernel)) ggL_law_X10_begin
set_option maxRecDepth 20000 in
theorem ggL_law_X9_turn : GoodIn wsL_law wsX9_turn := goodIn_r _ [357, 32, 31, 358, 359, 360, 2, 361, 362, 363, 364, 30, 365, 264, 366, 367, 368, 369, 265, 270, 370, 371, 372, 373, 66, 374, 375, 376, 377, 74, 79, 78, 266, 378, 379, 380, 381, 267, 382, 305, 306, 26, 307, 198, 383, 384, 385, 82, 386, 282, 276, 278, 279, 280, 281, 283, 284, 285, 387, 388, 389, 390, 391, 392, 393, 77, 394, 95, 395, 396, 397, 398, 399, 400, 401, 402, 303, 96, 403, 404, 405, 406, 70, 407, 209, 210, 211, 60, 59, 212, 213, 214, 215, 216, 217, 218, 203, 204, 205, 18, 206, 41, 207, 147, 148, 14, 149, 136, 408, 409, 410, 411, 412, 413, 414, 69, 415, 291, 290, 87, 416, 417, 418, 419, 420, 421, 422, 423, 424, 425, 426, 427, 80, 428, 429, 430, 22, 431, 48, 51, 49, 432, 433, 434, 435, 269, 268, 436, 437, 438, 439, 440, 441, 442, 443, 444, 445, 446, 447, 448, 449, 450, 451, 452, 58, 453, 454, 455, 456, 275, 457, 458, 459, 460, 461, 462, 463, 73, 464, 91, 298, 296, 297, 465, 466, 467, 468, 659, 660, 661, 662, 663, 664, 721, 722, 723, 724, 725, 726, 727, 728, 729, 730, 731, 732, 733, 744, 745, 746, 747, 748, 749, 750, 751, 737, 738, 739, 740, 741, 742, 743, 712, 713, 714, 715, 716, 717, 718, 719, 720, 705, 706, 707, 708, 703, 704, 734, 735, 736, 709, 710, 711] (by decide +kernel) (by decide +kernel)
set_option maxRecDepth 20000 in
theorem gL_law_X9_turn : GoodIn wsL_law (wsV RL 32 RX9 yX9_turn wsX9_turn) := goodIn_app (goodIn_of _ (by decide +kernel)) ggL_law_X9_turn
set_option maxRecDepth 20000 in
theorem ggL_law_X10_turn : GoodIn wsL_law wsX10_turn := goodIn_r _ [472, 154, 473, 474, 475, 5, 476, 312, 156, 157, 158, 477, 478, 479, 480, 314, 117, 324, 481, 482, 483, 484, 122, 318, 313, 316, 124, 315, 485, 486, 487, 488, 322, 489, 490, 491, 492, 118, 121, 493, 494, 495, 496, 123, 497, 498, 499, 500, 320, 319, 126, 338, 339, 340, 341, 127, 107, 501, 502, 503, 504, 119, 505, 506, 507, 508, 111, 112, 113, 323, 321, 116, 120, 509, 510, 511, 512, 513, 514, 515, 516, 517, 518, 519, 520, 317, 110, 125, 665, 666, 667, 668, 669, 670, 671, 672, 673, 674, 675, 676, 677, 678, 679, 680, 681, 682, 683, 684, 685, 686, 687, 688, 689, 690, 691, 692, 693, 694, 695, 696, 697, 698, 699, 700, 701, 702] (by decide +kernel) (by decide +kernel)
set_option maxRecDepth 20000 in
theorem gL_law_X10_turn : GoodIn wsL_law (wsV RL 35 RX10 yX10_turn wsX10_turn) := goodIn_app (goodIn_of _ (by decide +kernel)) ggL_law_X10_turn
set_option maxRecDepth 20000 in
theorem ggL_law_X9_run : GoodIn wsL_law wsX9_run := goodIn_r _ [524, 32, 31, 525, 526, 527, 30, 528, 265, 264, 529, 530, 531, 532, 66, 533, 367, 368, 369, 270, 370, 371, 372, 373, 374, 375, 376, 377, 74, 79, 78, 266, 378, 379, 380, 381, 267, 382, 305, 306, 26, 307, 198, 383, 384, 385, 82, 386, 282, 276, 278, 279, 280, 281, 283, 284, 285, 387, 388, 389, 390, 391, 392, 393, 77, 394, 95, 395, 396, 397, 398, 399, 400, 401, 402, 303, 96, 403, 404, 405, 406, 70, 407, 209, 210, 211, 60, 59, 212, 213, 214, 215, 216, 217, 218, 203, 204, 205, 18, 206, 41, 207, 147, 148, 14, 149, 136, 408, 409, 410, 411, 412, 413, 414, 69, 415, 291, 290, 87, 416, 417, 418, 419, 420, 421, 422, 423, 424, 425, 426, 427, 80, 428, 429, 430, 22, 431, 48, 51, 49, 432, 433, 434, 435, 269, 268, 436, 437, 438, 439, 440, 441, 442, 443, 444, 445, 446, 447, 448, 449, 450, 451, 452, 58, 453, 454, 455, 456, 275, 457, 458, 459, 460, 461, 462, 463, 73, 464, 91, 298, 296, 297, 465, 466, 467, 468, 659, 660, 661, 662, 663, 664, 721, 722, 723, 724, 725, 726, 727, 728, 729, 730, 731, 732, 733, 744, 745, 746, 747, 748, 749, 750, 751, 737, 738, 739, 740, 741, 742, 743, 712, 713, 714, 715, 716, 717, 718, 719, 720, 705, 706, 707, 708, 703, 704, 734, 735, 736, 709, 710, 711] (by decide +kernel) (by decide +kernel)
set_option maxRecDepth 20000 in
theorem gL_law_X9_run : GoodIn wsL_law (wsV RL 36 RX9 yX9_run wsX9_run) := goodIn_app (goodIn_of _ (by decide +kernel)) ggL_law_X9_run
set_option maxRecDepth 20000 in
theorem ggL_law_X10_run : GoodIn wsL_law wsX10_run := goodIn_r _ [537, 154, 314, 312, 156, 157, 5, 158, 538, 539, 540, 541, 117, 477, 478, 479, 480, 324, 481, 482, 483, 484, 122, 318, 313, 316, 124, 315, 485, 486, 487, 488, 322, 489, 490, 491, 492, 118, 121, 493, 494, 495, 496, 123, 497, 498, 499, 500, 320, 319, 126, 338, 339, 340, 341, 127, 107, 501, 502, 503, 504, 119, 505, 506, 507, 508, 111, 112, 113, 323, 321, 116, 120, 509, 510, 511, 512, 513, 514, 515, 516, 517, 518, 519, 520, 317, 110, 125, 665, 666, 667, 668, 669, 670, 671, 672, 673, 674, 675, 676, 677, 678, 679, 680, 681, 682, 683, 684, 685, 686, 687, 688, 689, 690, 691, 692, 693, 694, 695, 696, 697, 698, 699, 700, 701, 702] (by decide +kernel) (by decide +kernel)
set_option maxRecDepth 20000 in
theorem gL_law_X10_run : GoodIn wsL_law (wsV RL 39 RX10 yX10_run wsX10_run) := goodIn_app (goodIn_of _ (by decide +kernel)) ggL_law_X10_run
set_option maxRecDepth 20000 in
theorem ggL_law_X9_interrupt : GoodIn wsL_law wsX9_interrupt := goodIn_r _ [545, 32, 31, 358, 359, 360, 2, 361, 362, 363, 364, 30, 365, 264, 546, 547, 548, 549, 370, 371, 372, 373, 66, 659, 660, 661, 662, 663, 664, 721, 722, 723, 724, 725, 726, 727, 728, 729, 730, 731, 732, 733, 744, 745, 746, 747, 748, 749, 750, 751] (by decide +kernel) (by decide +kernel)
set_option maxRecDepth 20000 in
theorem gL_law_X9_interrupt : GoodIn wsL_law (wsV RL 40 RX9 yX9_interrupt wsX9_interrupt) := goodIn_app (goodIn_of _ (by decide +kernel)) ggL_law_X9_interrupt
set_option maxRecDepth 20000 in
theorem ggL_law_X10_interrupt : GoodIn wsL_law wsX10_interrupt := goodIn_r _ [553, 154, 122, 117, 473, 474, 475, 5, 476, 312, 156, 157, 158, 665, 666, 667, 668, 669, 670, 671, 672, 673, 674, 675, 676, 677, 678, 679, 680, 681, 682, 683, 684, 685, 686, 687, 688, 689, 690, 691, 692, 693, 694, 695, 696, 697, 698, 699, 700, 701, 702] (by decide +kernel) (by decide +kernel)
set_option maxRecDepth 20000 in
theorem gL_law_X10_interrupt : GoodIn wsL_law (wsV RL 43 RX10 yX10_interrupt wsX10_interrupt) := goodIn_app (goodIn_of _ (by decide +kernel)) ggL_law_X10_interrupt
set_option maxRecDepth 20000 in
theorem ggL_law_X9_thread : GoodIn wsL_law wsX9_thread := goodIn_r _ [557, 32, 31, 358, 359, 360, 2, 361, 362, 363, 364, 30, 365, 264, 558, 559, 560, 561, 370, 371, 372, 373, 66, 659, 660, 661, 662, 663, 664, 721, 722, 723, 724, 725, 726, 727, 728, 729, 730, 731, 732, 733, 744, 745, 746, 747, 748, 749, 750, 751] (by decide +kernel) (by decide +kernel)
set_option maxRecDepth 20000 in
theorem gL_law_X9_thread : GoodIn wsL_law (wsV RL 44 RX9 yX9_thread wsX9_thread) := goodIn_app (goodIn_of _ (by decide +kernel)) ggL_law_X9_thread
set_option maxRecDepth 20000 in
theorem ggL_law_X10_thread : GoodIn wsL_law wsX10_thread := goodIn_r _ [565, 154, 117, 118, 119, 120, 121, 473, 474, 475, 5, 476, 312, 156, 157, 158, 665, 666, 667, 668, 669, 670, 671, 672, 673, 674, 675, 676, 677, 678, 679, 680, 681, 682, 683, 684, 685, 686, 687, 688, 689, 690, 691, 692, 693, 694, 695, 696, 697, 698, 699, 700, 701, 702] (by decide +kernel) (by decide +kernel)
set_option maxRecDepth 20000 in
theorem gL_law_X10_thread : GoodIn wsL_law (wsV RL 47 RX10 yX10_thread wsX10_thread) := goodIn_app (goodIn_of _ (by decide +kernel)) ggL_law_X10_thread
set_option maxRecDepth 20000 in
theorem ggL_law_X9_out : GoodIn wsL_law wsX9_out := goodIn_r _ [569, 32, 31, 27, 570, 571, 572, 30, 573, 79, 74, 574, 575, 576, 26, 577, 57, 578, 579, 580, 581, 197, 56, 659, 660, 661, 662, 663, 664, 721, 722, 723, 724, 725, 726, 727, 728, 729, 730, 731, 732, 733, 737, 738, 739, 740, 712, 713, 714, 715, 716, 717, 718, 719, 720] (by decide +kernel) (by decide +kernel)
set_option maxRecDepth 20000 in
theorem gL_law_X9_out : GoodIn wsL_law (wsV RL 48 RX9 yX9_out wsX9_out) := goodIn_app (goodIn_of _ (by decide +kernel)) ggL_law_X9_out
set_option maxRecDepth 20000 in
theorem ggL_law_X10_out : GoodIn wsL_law wsX10_out := goodIn_r _ [585, 114, 586, 587, 588, 5, 589, 154, 318, 115, 156, 157, 158, 665, 666, 667, 668, 669, 670, 671, 672, 673, 674, 675, 676, 677, 678, 679, 680, 681, 682, 683, 684, 685, 686, 687, 688, 689, 690, 691, 692, 693, 694, 695, 696, 697, 698, 699, 700, 701, 702] (by decide +kernel) (by decide +kernel)
set_option maxRecDepth 20000 in
theorem gL_law_X10_out : GoodIn wsL_law (wsV RL 51 RX10 yX10_out wsX10_out) := goodIn_app (goodIn_of _ (by decide +kernel)) ggL_law_X10_out
set_option maxRecDepth 20000 in
theorem ggL_law_X9_told : GoodIn wsL_law wsX9_told := goodIn_r _ [593, 32, 31, 594, 595, 596, 30, 597, 79, 74, 70, 382, 305, 306, 26, 307, 198, 598, 571, 572, 573, 574, 575, 576, 577, 57, 599, 600, 601, 602, 267, 268, 269, 270, 78, 659, 660, 661, 662, 663, 664, 721, 722, 723, 724, 725, 726, 727, 728, 729, 730, 731, 732, 733, 737, 738, 739, 740, 734, 735, 736, 712, 713, 714, 715, 716, 717, 718, 719, 720, 741, 742, 743] (by decide +kernel) (by decide +kernel)
set_option maxRecDepth 20000 in
theorem gL_law_X9_told : GoodIn wsL_law (wsV RL 52 RX9 yX9_told wsX9_told) := goodIn_app (goodIn_of _ (by decide +kernel)) ggL_law_X9_told
set_option maxRecDepth 20000 in
theorem ggL_law_X10_told : GoodIn wsL_law wsX10_told := goodIn_r _ [606, 154, 313, 318, 319, 320, 317, 321, 322, 323, 324, 316, 156, 157, 5, 158, 586, 587, 588, 589, 115, 665, 666, 667, 668, 669, 670, 671, 672, 673, 674, 675, 676, 677, 678, 679, 680, 681, 682, 683, 684, 685, 686, 687, 688, 689, 690, 691, 692, 693, 694, 695, 696, 697, 698, 699, 700, 701, 702] (by decide +kernel) (by decide +kernel)
set_option maxRecDepth 20000 in
theorem gL_law_X10_told : GoodIn wsL_law (wsV RL 55 RX10 yX10_told wsX10_told) := goodIn_app (goodIn_of _ (by decide +kernel)) ggL_law_X10_told
set_option maxRecDepth 20000 in
theorem ggL_law_X9_waiting : GoodIn wsL_law wsX9_waiting := goodIn_r _ [610, 32, 31, 611, 612, 613, 30, 614, 70, 615, 616, 617, 69, 618, 291, 87, 659, 660, 661, 662, 663, 664, 721, 722, 723, 724, 725, 726, 727, 728, 729, 730, 731, 732, 733, 734, 735, 736, 744, 745, 746, 747, 748, 749, 750, 751] (by decide +kernel) (by decide +kernel)
set_option maxRecDepth 20000 in
theorem gL_law_X9_waiting : GoodIn wsL_law (wsV RL 56 RX9 yX9_waiting wsX9_waiting) := goodIn_app (goodIn_of _ (by decide +kernel)) ggL_law_X9_waiting
set_option maxRecDepth 20000 in
theorem ggL_law_X10_waiting : GoodIn wsL_law wsX10_waiting := goodIn_r _ [622, 154, 320, 126, 156, 157, 5, 158, 665, 666, 667, 668, 669, 670, 671, 672, 673, 674, 675, 676, 677, 678, 679, 680, 681, 682, 683, 684, 685, 686, 687, 688, 689, 690, 691, 692, 693, 694, 695, 696, 697, 698, 699, 700, 701, 702] (by decide +kernel) (by decide +kernel)
set_option maxRecDepth 20000 in
theorem gL_law_X10_waiting : GoodIn wsL_law (wsV RL 59 RX10 yX10_waiting wsX10_waiting) := goodIn_app (goodIn_of _ (by decide +kernel)) ggL_law_X10_waiting
set_option maxRecDepth 20000 in
theorem ggL_law_X9_plain : GoodIn wsL_law wsX9_plain := goodIn_r _ [626, 27, 193, 194, 195, 26, 196, 145, 197, 198, 60, 58, 57, 199, 200, 201, 202, 59, 203, 204, 205, 18, 206, 41, 207, 147, 148, 14, 149, 136, 208, 209, 210, 211, 212, 213, 214, 215, 216, 217, 218, 219, 220, 221, 222, 223, 224, 225, 226, 227, 228, 229, 230, 231, 42, 232, 233, 234, 235, 236, 237, 238, 239, 37, 240, 241, 242, 243, 56, 244, 245, 246, 247, 248, 249, 250, 251, 578, 579, 580, 581, 659, 660, 661, 662, 663, 664, 712, 713, 714, 715, 716, 717, 718, 719, 720, 705, 706, 707, 708, 703, 704] (by decide +kernel) (by decide +kernel)
set_option maxRecDepth 20000 in
theorem gL_law_X9_plain : GoodIn wsL_law (wsV RL 60 RX9 yX9_plain wsX9_plain) := goodIn_app (goodIn_of _ (by decide +kernel)) ggL_law_X9_plain
set_option maxRecDepth 20000 in
theorem ggL_law_X10_plain : GoodIn wsL_law wsX10_plain := goodIn_r _ [630, 329, 114, 325, 326, 327, 5, 328, 155, 330, 331, 332, 333, 127, 107, 334, 335, 336, 337, 116, 108, 115, 338, 339, 340, 341, 342, 343, 344, 345, 106, 346, 347, 348, 349, 350, 351, 352, 353, 156, 157, 158, 665, 666, 667, 668, 669, 670, 671, 672, 673, 674, 675, 676, 677, 678, 679, 680, 681, 682, 683, 684, 685, 686, 687, 688, 689, 690, 691, 692, 693, 694, 695, 696, 697, 698, 699, 700, 701, 702] (by decide +kernel) (by decide +kernel)
set_option maxRecDepth 20000 in
theorem gL_law_X10_plain : GoodIn wsL_law (wsV RL 63 RX10 yX10_plain wsX10_plain) := goodIn_app (goodIn_of _ (by decide +kernel)) ggL_law_X10_plain
set_option maxRecDepth 20000 in
theorem ggL_law_X9_close : GoodIn wsL_law wsX9_close := goodIn_r _ [634, 32, 31, 635, 636, 637, 30, 638, 70, 264, 66, 436, 437, 438, 69, 439, 290, 291, 87, 440, 441, 442, 443, 416, 417, 418, 82, 419, 282, 284, 383, 384, 385, 386, 276, 278, 279, 280, 281, 283, 285, 659, 660, 661, 662, 663, 664, 721, 722, 723, 724, 725, 726, 727, 728, 729, 730, 731, 732, 733, 734, 735, 736, 744, 745, 746, 747, 748, 749, 750, 751] (by decide +kernel) (by decide +kernel)
set_option maxRecDepth 20000 in
theorem gL_law_X9_close : GoodIn wsL_law (wsV RL 64 RX9 yX9_close wsX9_close) := goodIn_app (goodIn_of _ (by decide +kernel)) ggL_law_X9_close
set_option maxRecDepth 20000 in
theorem ggL_law_X10_close : GoodIn wsL_law wsX10_close := goodIn_r _ [642, 154, 320, 312, 117, 319, 118, 338, 339, 340, 5, 341, 127, 107, 489, 490, 491, 492, 121, 665, 666, 667, 668, 669, 670, 671, 672, 673, 674, 675, 676, 677, 678, 679, 680, 681, 682, 683, 684, 685, 686, 687, 688, 689, 690, 691, 692, 693, 694, 695, 696, 697, 698, 699, 700, 701, 702] (by decide +kernel) (by decide +kernel)
set_option maxRecDepth 20000 in
theorem gL_law_X10_close : GoodIn wsL_law (wsV RL 68 RX10 yX10_close wsX10_close) := goodIn_app (goodIn_of _ (by decide +kernel)) ggL_law_X10_close
set_option maxRecDepth 20000 in
theorem ggL_law_X9_clear : GoodIn wsL_law wsX9_clear := goodIn_r _ [646, 15, 23, 27, 32, 146, 147, 148, 14, 149, 136, 647, 648, 649, 650, 651, 652, 653, 22, 654, 49, 141, 142, 143, 26, 144, 145, 659, 660, 661, 662, 663, 664, 703, 704, 709, 710, 711, 712, 713, 714, 715, 716, 717, 718, 719, 720] (by decide +kernel) (by decide +kernel)
set_option maxRecDepth 20000 in
theorem gL_law_X9_clear : GoodIn wsL_law (wsV RL 69 RX9 yX9_clear wsX9_clear) := goodIn_app (goodIn_of _ (by decide +kernel)) ggL_law_X9_clear
set_option maxRecDepth 20000 in
theorem ggL_law_X10_clear : GoodIn wsL_law wsX10_clear := goodIn_r _ [658, 127, 154, 155, 111, 665, 666, 667, 668, 669, 670, 671, 672, 673, 674, 675, 676, 677, 678, 679, 680, 681, 682, 683, 684, 685, 686, 687, 688, 689, 690, 691, 692, 693, 694, 695, 696, 697, 698, 699, 700, 701, 702] (by decide +kernel) (by decide +kernel)
set_option maxRecDepth 20000 in
theorem gL_law_X10_clear : GoodIn wsL_law (wsV RL 72 RX10 yX10_clear wsX10_clear) := goodIn_app (goodIn_of _ (by decide +kernel)) ggL_law_X10_clear
theorem dL_law_0 : decode cL_law 0 = .ok (.new 7, 3) := by decide +kernel
theorem dL_law_3 : decode cL_law 3 = .ok (.dup, 1) := by decide +kernel
theorem dL_law_4 : decode cL_law 4 = .ok (.invokespecial 9, 3) := by decide +kernel
theorem dL_law_7 : decode cL_law 7 = .ok (.astore_n 1, 1) := by decide +kernel
theorem dL_law_8 : decode cL_law 8 = .ok (.new 10, 3) := by decide +kernel
theorem dL_law_11 : decode cL_law 11 = .ok (.dup, 1) := by decide +kernel
theorem dL_law_12 : decode cL_law 12 = .ok (.invokespecial 12, 3) := by decide +kernel
theorem dL_law_15 : decode cL_law 15 = .ok (.astore_n 2, 1) := by decide +kernel
theorem dL_law_16 : decode cL_law 16 = .ok (.iconst 0, 1) := by decide +kernel
theorem dL_law_17 : decode cL_law 17 = .ok (.istore_n 3, 1) := by decide +kernel
theorem dL_law_18 : decode cL_law 18 = .ok (.iload_n 3, 1) := by decide +kernel
theorem dL_law_19 : decode cL_law 19 = .ok (.aload_n 0, 1) := by decide +kernel
theorem dL_law_20 : decode cL_law 20 = .ok (.arraylength, 1) := by decide +kernel
theorem dL_law_21 : decode cL_law 21 = .ok (.iconst 5, 1) := by decide +kernel
theorem dL_law_22 : decode cL_law 22 = .ok (.isub, 1) := by decide +kernel
theorem dL_law_23 : decode cL_law 23 = .ok (.if_icmp .gt 455, 3) := by decide +kernel
theorem dL_law_26 : decode cL_law 26 = .ok (.aload_n 0, 1) := by decide +kernel
theorem dL_law_27 : decode cL_law 27 = .ok (.iload_n 3, 1) := by decide +kernel
theorem dL_law_28 : decode cL_law 28 = .ok (.iaload, 1) := by decide +kernel
theorem dL_law_29 : decode cL_law 29 = .ok (.bipush 15, 2) := by decide +kernel
theorem dL_law_31 : decode cL_law 31 = .ok (.iand, 1) := by decide +kernel
theorem dL_law_32 : decode cL_law 32 = .ok (.tableswitch 440 0 13 #[72, 95, 128, 197, 220, 243, 266, 289, 322, 345, 368, 391, 414, 427], 72) := by decide +kernel
theorem dL_law_104 : decode cL_law 104 = .ok (.aload_n 1, 1) := by decide +kernel
theorem dL_law_105 : decode cL_law 105 = .ok (.aload_n 0, 1) := by decide +kernel
theorem dL_law_106 : decode cL_law 106 = .ok (.iload_n 3, 1) := by decide +kernel
theorem dL_law_107 : decode cL_law 107 = .ok (.iconst 1, 1) := by decide +kernel
theorem dL_law_108 : decode cL_law 108 = .ok (.iadd, 1) := by decide +kernel
theorem dL_law_109 : decode cL_law 109 = .ok (.iaload, 1) := by decide +kernel
theorem dL_law_110 : decode cL_law 110 = .ok (.invokevirtual 13, 3) := by decide +kernel
theorem dL_law_113 : decode cL_law 113 = .ok (.aload_n 2, 1) := by decide +kernel
theorem dL_law_114 : decode cL_law 114 = .ok (.aload_n 0, 1) := by decide +kernel
theorem dL_law_115 : decode cL_law 115 = .ok (.iload_n 3, 1) := by decide +kernel
theorem dL_law_116 : decode cL_law 116 = .ok (.iconst 1, 1) := by decide +kernel
theorem dL_law_117 : decode cL_law 117 = .ok (.iadd, 1) := by decide +kernel
theorem dL_law_118 : decode cL_law 118 = .ok (.iaload, 1) := by decide +kernel
theorem dL_law_119 : decode cL_law 119 = .ok (.invokevirtual 17, 3) := by decide +kernel
theorem dL_law_122 : decode cL_law 122 = .ok (.if_icmp .eq 350, 3) := by decide +kernel
theorem dL_law_125 : decode cL_law 125 = .ok (.iconst 0, 1) := by decide +kernel
theorem dL_law_126 : decode cL_law 126 = .ok (.ireturn, 1) := by decide +kernel
theorem dL_law_127 : decode cL_law 127 = .ok (.aload_n 1, 1) := by decide +kernel
theorem dL_law_128 : decode cL_law 128 = .ok (.aload_n 0, 1) := by decide +kernel
theorem dL_law_129 : decode cL_law 129 = .ok (.iload_n 3, 1) := by decide +kernel
theorem dL_law_130 : decode cL_law 130 = .ok (.iconst 1, 1) := by decide +kernel
theorem dL_law_131 : decode cL_law 131 = .ok (.iadd, 1) := by decide +kernel
theorem dL_law_132 : decode cL_law 132 = .ok (.iaload, 1) := by decide +kernel
theorem dL_law_133 : decode cL_law 133 = .ok (.aload_n 0, 1) := by decide +kernel
theorem dL_law_134 : decode cL_law 134 = .ok (.iload_n 3, 1) := by decide +kernel
theorem dL_law_135 : decode cL_law 135 = .ok (.iconst 2, 1) := by decide +kernel
theorem dL_law_136 : decode cL_law 136 = .ok (.iadd, 1) := by decide +kernel
theorem dL_law_137 : decode cL_law 137 = .ok (.iaload, 1) := by decide +kernel
theorem dL_law_138 : decode cL_law 138 = .ok (.invokevirtual 18, 3) := by decide +kernel
theorem dL_law_141 : decode cL_law 141 = .ok (.aload_n 2, 1) := by decide +kernel
theorem dL_law_142 : decode cL_law 142 = .ok (.aload_n 0, 1) := by decide +kernel
theorem dL_law_143 : decode cL_law 143 = .ok (.iload_n 3, 1) := by decide +kernel
theorem dL_law_144 : decode cL_law 144 = .ok (.iconst 1, 1) := by decide +kernel
theorem dL_law_145 : decode cL_law 145 = .ok (.iadd, 1) := by decide +kernel
theorem dL_law_146 : decode cL_law 146 = .ok (.iaload, 1) := by decide +kernel
theorem dL_law_147 : decode cL_law 147 = .ok (.aload_n 0, 1) := by decide +kernel
theorem dL_law_148 : decode cL_law 148 = .ok (.iload_n 3, 1) := by decide +kernel
theorem dL_law_149 : decode cL_law 149 = .ok (.iconst 2, 1) := by decide +kernel
theorem dL_law_150 : decode cL_law 150 = .ok (.iadd, 1) := by decide +kernel
theorem dL_law_151 : decode cL_law 151 = .ok (.iaload, 1) := by decide +kernel
theorem dL_law_152 : decode cL_law 152 = .ok (.invokevirtual 22, 3) := by decide +kernel
theorem dL_law_155 : decode cL_law 155 = .ok (.if_icmp .eq 317, 3) := by decide +kernel
theorem dL_law_158 : decode cL_law 158 = .ok (.iconst 0, 1) := by decide +kernel
theorem dL_law_159 : decode cL_law 159 = .ok (.ireturn, 1) := by decide +kernel
theorem dL_law_160 : decode cL_law 160 = .ok (.aload_n 1, 1) := by decide +kernel
theorem dL_law_161 : decode cL_law 161 = .ok (.aload_n 0, 1) := by decide +kernel
theorem dL_law_162 : decode cL_law 162 = .ok (.iload_n 3, 1) := by decide +kernel
theorem dL_law_163 : decode cL_law 163 = .ok (.iconst 1, 1) := by decide +kernel
theorem dL_law_164 : decode cL_law 164 = .ok (.iadd, 1) := by decide +kernel
theorem dL_law_165 : decode cL_law 165 = .ok (.iaload, 1) := by decide +kernel
theorem dL_law_166 : decode cL_law 166 = .ok (.aload_n 0, 1) := by decide +kernel
theorem dL_law_167 : decode cL_law 167 = .ok (.iload_n 3, 1) := by decide +kernel
theorem dL_law_168 : decode cL_law 168 = .ok (.iconst 2, 1) := by decide +kernel
theorem dL_law_169 : decode cL_law 169 = .ok (.iadd, 1) := by decide +kernel
theorem dL_law_170 : decode cL_law 170 = .ok (.iaload, 1) := by decide +kernel
theorem dL_law_171 : decode cL_law 171 = .ok (.aload_n 0, 1) := by decide +kernel
theorem dL_law_172 : decode cL_law 172 = .ok (.iload_n 3, 1) := by decide +kernel
theorem dL_law_173 : decode cL_law 173 = .ok (.iconst 3, 1) := by decide +kernel
theorem dL_law_174 : decode cL_law 174 = .ok (.iadd, 1) := by decide +kernel
theorem dL_law_175 : decode cL_law 175 = .ok (.iaload, 1) := by decide +kernel
theorem dL_law_176 : decode cL_law 176 = .ok (.aload_n 0, 1) := by decide +kernel
theorem dL_law_177 : decode cL_law 177 = .ok (.iload_n 3, 1) := by decide +kernel
theorem dL_law_178 : decode cL_law 178 = .ok (.iconst 4, 1) := by decide +kernel
theorem dL_law_179 : decode cL_law 179 = .ok (.iadd, 1) := by decide +kernel
theorem dL_law_180 : decode cL_law 180 = .ok (.iaload, 1) := by decide +kernel
theorem dL_law_181 : decode cL_law 181 = .ok (.ifCond .eq 7, 3) := by decide +kernel
theorem dL_law_184 : decode cL_law 184 = .ok (.iconst 1, 1) := by decide +kernel
theorem dL_law_185 : decode cL_law 185 = .ok (.goto 4, 3) := by decide +kernel
theorem dL_law_188 : decode cL_law 188 = .ok (.iconst 0, 1) := by decide +kernel
theorem dL_law_189 : decode cL_law 189 = .ok (.invokevirtual 23, 3) := by decide +kernel
theorem dL_law_192 : decode cL_law 192 = .ok (.aload_n 2, 1) := by decide +kernel
theorem dL_law_193 : decode cL_law 193 = .ok (.aload_n 0, 1) := by decide +kernel
theorem dL_law_194 : decode cL_law 194 = .ok (.iload_n 3, 1) := by decide +kernel
theorem dL_law_195 : decode cL_law 195 = .ok (.iconst 1, 1) := by decide +kernel
theorem dL_law_196 : decode cL_law 196 = .ok (.iadd, 1) := by decide +kernel
theorem dL_law_197 : decode cL_law 197 = .ok (.iaload, 1) := by decide +kernel
theorem dL_law_198 : decode cL_law 198 = .ok (.aload_n 0, 1) := by decide +kernel
theorem dL_law_199 : decode cL_law 199 = .ok (.iload_n 3, 1) := by decide +kernel
theorem dL_law_200 : decode cL_law 200 = .ok (.iconst 2, 1) := by decide +kernel
theorem dL_law_201 : decode cL_law 201 = .ok (.iadd, 1) := by decide +kernel
theorem dL_law_202 : decode cL_law 202 = .ok (.iaload, 1) := by decide +kernel
theorem dL_law_203 : decode cL_law 203 = .ok (.aload_n 0, 1) := by decide +kernel
theorem dL_law_204 : decode cL_law 204 = .ok (.iload_n 3, 1) := by decide +kernel
theorem dL_law_205 : decode cL_law 205 = .ok (.iconst 3, 1) := by decide +kernel
theorem dL_law_206 : decode cL_law 206 = .ok (.iadd, 1) := by decide +kernel
theorem dL_law_207 : decode cL_law 207 = .ok (.iaload, 1) := by decide +kernel
theorem dL_law_208 : decode cL_law 208 = .ok (.aload_n 0, 1) := by decide +kernel
theorem dL_law_209 : decode cL_law 209 = .ok (.iload_n 3, 1) := by decide +kernel
theorem dL_law_210 : decode cL_law 210 = .ok (.iconst 4, 1) := by decide +kernel
theorem dL_law_211 : decode cL_law 211 = .ok (.iadd, 1) := by decide +kernel
theorem dL_law_212 : decode cL_law 212 = .ok (.iaload, 1) := by decide +kernel
theorem dL_law_213 : decode cL_law 213 = .ok (.ifCond .eq 7, 3) := by decide +kernel
theorem dL_law_216 : decode cL_law 216 = .ok (.iconst 1, 1) := by decide +kernel
theorem dL_law_217 : decode cL_law 217 = .ok (.goto 4, 3) := by decide +kernel
theorem dL_law_220 : decode cL_law 220 = .ok (.iconst 0, 1) := by decide +kernel
theorem dL_law_221 : decode cL_law 221 = .ok (.invokevirtual 27, 3) := by decide +kernel
theorem dL_law_224 : decode cL_law 224 = .ok (.if_icmp .eq 248, 3) := by decide +kernel
theorem dL_law_227 : decode cL_law 227 = .ok (.iconst 0, 1) := by decide +kernel
theorem dL_law_228 : decode cL_law 228 = .ok (.ireturn, 1) := by decide +kernel
theorem dL_law_229 : decode cL_law 229 = .ok (.aload_n 1, 1) := by decide +kernel
theorem dL_law_230 : decode cL_law 230 = .ok (.aload_n 0, 1) := by decide +kernel
theorem dL_law_231 : decode cL_law 231 = .ok (.iload_n 3, 1) := by decide +kernel
theorem dL_law_232 : decode cL_law 232 = .ok (.iconst 1, 1) := by decide +kernel
theorem dL_law_233 : decode cL_law 233 = .ok (.iadd, 1) := by decide +kernel
theorem dL_law_234 : decode cL_law 234 = .ok (.iaload, 1) := by decide +kernel
theorem dL_law_235 : decode cL_law 235 = .ok (.invokevirtual 28, 3) := by decide +kernel
theorem dL_law_238 : decode cL_law 238 = .ok (.aload_n 2, 1) := by decide +kernel
theorem dL_law_239 : decode cL_law 239 = .ok (.aload_n 0, 1) := by decide +kernel
theorem dL_law_240 : decode cL_law 240 = .ok (.iload_n 3, 1) := by decide +kernel
theorem dL_law_241 : decode cL_law 241 = .ok (.iconst 1, 1) := by decide +kernel
theorem dL_law_242 : decode cL_law 242 = .ok (.iadd, 1) := by decide +kernel
theorem dL_law_243 : decode cL_law 243 = .ok (.iaload, 1) := by decide +kernel
theorem dL_law_244 : decode cL_law 244 = .ok (.invokevirtual 31, 3) := by decide +kernel
theorem dL_law_247 : decode cL_law 247 = .ok (.if_icmp .eq 225, 3) := by decide +kernel
theorem dL_law_250 : decode cL_law 250 = .ok (.iconst 0, 1) := by decide +kernel
theorem dL_law_251 : decode cL_law 251 = .ok (.ireturn, 1) := by decide +kernel
theorem dL_law_252 : decode cL_law 252 = .ok (.aload_n 1, 1) := by decide +kernel
theorem dL_law_253 : decode cL_law 253 = .ok (.aload_n 0, 1) := by decide +kernel
theorem dL_law_254 : decode cL_law 254 = .ok (.iload_n 3, 1) := by decide +kernel
theorem dL_law_255 : decode cL_law 255 = .ok (.iconst 1, 1) := by decide +kernel
theorem dL_law_256 : decode cL_law 256 = .ok (.iadd, 1) := by decide +kernel
theorem dL_law_257 : decode cL_law 257 = .ok (.iaload, 1) := by decide +kernel
theorem dL_law_258 : decode cL_law 258 = .ok (.invokevirtual 32, 3) := by decide +kernel
theorem dL_law_261 : decode cL_law 261 = .ok (.aload_n 2, 1) := by decide +kernel
theorem dL_law_262 : decode cL_law 262 = .ok (.aload_n 0, 1) := by decide +kernel
theorem dL_law_263 : decode cL_law 263 = .ok (.iload_n 3, 1) := by decide +kernel
theorem dL_law_264 : decode cL_law 264 = .ok (.iconst 1, 1) := by decide +kernel
theorem dL_law_265 : decode cL_law 265 = .ok (.iadd, 1) := by decide +kernel
theorem dL_law_266 : decode cL_law 266 = .ok (.iaload, 1) := by decide +kernel
theorem dL_law_267 : decode cL_law 267 = .ok (.invokevirtual 35, 3) := by decide +kernel
theorem dL_law_270 : decode cL_law 270 = .ok (.if_icmp .eq 202, 3) := by decide +kernel
theorem dL_law_273 : decode cL_law 273 = .ok (.iconst 0, 1) := by decide +kernel
theorem dL_law_274 : decode cL_law 274 = .ok (.ireturn, 1) := by decide +kernel
theorem dL_law_275 : decode cL_law 275 = .ok (.aload_n 1, 1) := by decide +kernel
theorem dL_law_276 : decode cL_law 276 = .ok (.aload_n 0, 1) := by decide +kernel
theorem dL_law_277 : decode cL_law 277 = .ok (.iload_n 3, 1) := by decide +kernel
theorem dL_law_278 : decode cL_law 278 = .ok (.iconst 1, 1) := by decide +kernel
theorem dL_law_279 : decode cL_law 279 = .ok (.iadd, 1) := by decide +kernel
theorem dL_law_280 : decode cL_law 280 = .ok (.iaload, 1) := by decide +kernel
theorem dL_law_281 : decode cL_law 281 = .ok (.invokevirtual 36, 3) := by decide +kernel
theorem dL_law_284 : decode cL_law 284 = .ok (.aload_n 2, 1) := by decide +kernel
theorem dL_law_285 : decode cL_law 285 = .ok (.aload_n 0, 1) := by decide +kernel
theorem dL_law_286 : decode cL_law 286 = .ok (.iload_n 3, 1) := by decide +kernel
theorem dL_law_287 : decode cL_law 287 = .ok (.iconst 1, 1) := by decide +kernel
theorem dL_law_288 : decode cL_law 288 = .ok (.iadd, 1) := by decide +kernel
theorem dL_law_289 : decode cL_law 289 = .ok (.iaload, 1) := by decide +kernel
theorem dL_law_290 : decode cL_law 290 = .ok (.invokevirtual 39, 3) := by decide +kernel
theorem dL_law_293 : decode cL_law 293 = .ok (.if_icmp .eq 179, 3) := by decide +kernel
theorem dL_law_296 : decode cL_law 296 = .ok (.iconst 0, 1) := by decide +kernel
theorem dL_law_297 : decode cL_law 297 = .ok (.ireturn, 1) := by decide +kernel
theorem dL_law_298 : decode cL_law 298 = .ok (.aload_n 1, 1) := by decide +kernel
theorem dL_law_299 : decode cL_law 299 = .ok (.aload_n 0, 1) := by decide +kernel
theorem dL_law_300 : decode cL_law 300 = .ok (.iload_n 3, 1) := by decide +kernel
theorem dL_law_301 : decode cL_law 301 = .ok (.iconst 1, 1) := by decide +kernel
theorem dL_law_302 : decode cL_law 302 = .ok (.iadd, 1) := by decide +kernel
theorem dL_law_303 : decode cL_law 303 = .ok (.iaload, 1) := by decide +kernel
theorem dL_law_304 : decode cL_law 304 = .ok (.invokevirtual 40, 3) := by decide +kernel
theorem dL_law_307 : decode cL_law 307 = .ok (.aload_n 2, 1) := by decide +kernel
theorem dL_law_308 : decode cL_law 308 = .ok (.aload_n 0, 1) := by decide +kernel
theorem dL_law_309 : decode cL_law 309 = .ok (.iload_n 3, 1) := by decide +kernel
theorem dL_law_310 : decode cL_law 310 = .ok (.iconst 1, 1) := by decide +kernel
theorem dL_law_311 : decode cL_law 311 = .ok (.iadd, 1) := by decide +kernel
theorem dL_law_312 : decode cL_law 312 = .ok (.iaload, 1) := by decide +kernel
theorem dL_law_313 : decode cL_law 313 = .ok (.invokevirtual 43, 3) := by decide +kernel
theorem dL_law_316 : decode cL_law 316 = .ok (.if_icmp .eq 156, 3) := by decide +kernel
theorem dL_law_319 : decode cL_law 319 = .ok (.iconst 0, 1) := by decide +kernel
theorem dL_law_320 : decode cL_law 320 = .ok (.ireturn, 1) := by decide +kernel
theorem dL_law_321 : decode cL_law 321 = .ok (.aload_n 1, 1) := by decide +kernel
theorem dL_law_322 : decode cL_law 322 = .ok (.aload_n 0, 1) := by decide +kernel
theorem dL_law_323 : decode cL_law 323 = .ok (.iload_n 3, 1) := by decide +kernel
theorem dL_law_324 : decode cL_law 324 = .ok (.iconst 1, 1) := by decide +kernel
theorem dL_law_325 : decode cL_law 325 = .ok (.iadd, 1) := by decide +kernel
theorem dL_law_326 : decode cL_law 326 = .ok (.iaload, 1) := by decide +kernel
theorem dL_law_327 : decode cL_law 327 = .ok (.aload_n 0, 1) := by decide +kernel
theorem dL_law_328 : decode cL_law 328 = .ok (.iload_n 3, 1) := by decide +kernel
theorem dL_law_329 : decode cL_law 329 = .ok (.iconst 2, 1) := by decide +kernel
theorem dL_law_330 : decode cL_law 330 = .ok (.iadd, 1) := by decide +kernel
theorem dL_law_331 : decode cL_law 331 = .ok (.iaload, 1) := by decide +kernel
theorem dL_law_332 : decode cL_law 332 = .ok (.invokevirtual 44, 3) := by decide +kernel
theorem dL_law_335 : decode cL_law 335 = .ok (.aload_n 2, 1) := by decide +kernel
theorem dL_law_336 : decode cL_law 336 = .ok (.aload_n 0, 1) := by decide +kernel
theorem dL_law_337 : decode cL_law 337 = .ok (.iload_n 3, 1) := by decide +kernel
theorem dL_law_338 : decode cL_law 338 = .ok (.iconst 1, 1) := by decide +kernel
theorem dL_law_339 : decode cL_law 339 = .ok (.iadd, 1) := by decide +kernel
theorem dL_law_340 : decode cL_law 340 = .ok (.iaload, 1) := by decide +kernel
theorem dL_law_341 : decode cL_law 341 = .ok (.aload_n 0, 1) := by decide +kernel
theorem dL_law_342 : decode cL_law 342 = .ok (.iload_n 3, 1) := by decide +kernel
theorem dL_law_343 : decode cL_law 343 = .ok (.iconst 2, 1) := by decide +kernel
theorem dL_law_344 : decode cL_law 344 = .ok (.iadd, 1) := by decide +kernel
theorem dL_law_345 : decode cL_law 345 = .ok (.iaload, 1) := by decide +kernel
theorem dL_law_346 : decode cL_law 346 = .ok (.invokevirtual 47, 3) := by decide +kernel
theorem dL_law_349 : decode cL_law 349 = .ok (.if_icmp .eq 123, 3) := by decide +kernel
theorem dL_law_352 : decode cL_law 352 = .ok (.iconst 0, 1) := by decide +kernel
theorem dL_law_353 : decode cL_law 353 = .ok (.ireturn, 1) := by decide +kernel
theorem dL_law_354 : decode cL_law 354 = .ok (.aload_n 1, 1) := by decide +kernel
theorem dL_law_355 : decode cL_law 355 = .ok (.aload_n 0, 1) := by decide +kernel
theorem dL_law_356 : decode cL_law 356 = .ok (.iload_n 3, 1) := by decide +kernel
theorem dL_law_357 : decode cL_law 357 = .ok (.iconst 1, 1) := by decide +kernel
theorem dL_law_358 : decode cL_law 358 = .ok (.iadd, 1) := by decide +kernel
theorem dL_law_359 : decode cL_law 359 = .ok (.iaload, 1) := by decide +kernel
theorem dL_law_360 : decode cL_law 360 = .ok (.invokevirtual 48, 3) := by decide +kernel
theorem dL_law_363 : decode cL_law 363 = .ok (.aload_n 2, 1) := by decide +kernel
theorem dL_law_364 : decode cL_law 364 = .ok (.aload_n 0, 1) := by decide +kernel
theorem dL_law_365 : decode cL_law 365 = .ok (.iload_n 3, 1) := by decide +kernel
theorem dL_law_366 : decode cL_law 366 = .ok (.iconst 1, 1) := by decide +kernel
theorem dL_law_367 : decode cL_law 367 = .ok (.iadd, 1) := by decide +kernel
theorem dL_law_368 : decode cL_law 368 = .ok (.iaload, 1) := by decide +kernel
theorem dL_law_369 : decode cL_law 369 = .ok (.invokevirtual 51, 3) := by decide +kernel
theorem dL_law_372 : decode cL_law 372 = .ok (.if_icmp .eq 100, 3) := by decide +kernel
theorem dL_law_375 : decode cL_law 375 = .ok (.iconst 0, 1) := by decide +kernel
theorem dL_law_376 : decode cL_law 376 = .ok (.ireturn, 1) := by decide +kernel
theorem dL_law_377 : decode cL_law 377 = .ok (.aload_n 1, 1) := by decide +kernel
theorem dL_law_378 : decode cL_law 378 = .ok (.aload_n 0, 1) := by decide +kernel
theorem dL_law_379 : decode cL_law 379 = .ok (.iload_n 3, 1) := by decide +kernel
theorem dL_law_380 : decode cL_law 380 = .ok (.iconst 1, 1) := by decide +kernel
theorem dL_law_381 : decode cL_law 381 = .ok (.iadd, 1) := by decide +kernel
theorem dL_law_382 : decode cL_law 382 = .ok (.iaload, 1) := by decide +kernel
theorem dL_law_383 : decode cL_law 383 = .ok (.invokevirtual 52, 3) := by decide +kernel
theorem dL_law_386 : decode cL_law 386 = .ok (.aload_n 2, 1) := by decide +kernel
theorem dL_law_387 : decode cL_law 387 = .ok (.aload_n 0, 1) := by decide +kernel
theorem dL_law_388 : decode cL_law 388 = .ok (.iload_n 3, 1) := by decide +kernel
theorem dL_law_389 : decode cL_law 389 = .ok (.iconst 1, 1) := by decide +kernel
theorem dL_law_390 : decode cL_law 390 = .ok (.iadd, 1) := by decide +kernel
theorem dL_law_391 : decode cL_law 391 = .ok (.iaload, 1) := by decide +kernel
theorem dL_law_392 : decode cL_law 392 = .ok (.invokevirtual 55, 3) := by decide +kernel
theorem dL_law_395 : decode cL_law 395 = .ok (.if_icmp .eq 77, 3) := by decide +kernel
theorem dL_law_398 : decode cL_law 398 = .ok (.iconst 0, 1) := by decide +kernel
theorem dL_law_399 : decode cL_law 399 = .ok (.ireturn, 1) := by decide +kernel
theorem dL_law_400 : decode cL_law 400 = .ok (.aload_n 1, 1) := by decide +kernel
theorem dL_law_401 : decode cL_law 401 = .ok (.aload_n 0, 1) := by decide +kernel
theorem dL_law_402 : decode cL_law 402 = .ok (.iload_n 3, 1) := by decide +kernel
theorem dL_law_403 : decode cL_law 403 = .ok (.iconst 1, 1) := by decide +kernel
theorem dL_law_404 : decode cL_law 404 = .ok (.iadd, 1) := by decide +kernel
theorem dL_law_405 : decode cL_law 405 = .ok (.iaload, 1) := by decide +kernel
theorem dL_law_406 : decode cL_law 406 = .ok (.invokevirtual 56, 3) := by decide +kernel
theorem dL_law_409 : decode cL_law 409 = .ok (.aload_n 2, 1) := by decide +kernel
theorem dL_law_410 : decode cL_law 410 = .ok (.aload_n 0, 1) := by decide +kernel
end
section
theorem dL_law_411 : decode cL_law 411 = .ok (.iload_n 3, 1) := by decide +kernel
theorem dL_law_412 : decode cL_law 412 = .ok (.iconst 1, 1) := by decide +kernel
theorem dL_law_413 : decode cL_law 413 = .ok (.iadd, 1) := by decide +kernel
theorem dL_law_414 : decode cL_law 414 = .ok (.iaload, 1) := by decide +kernel
theorem dL_law_415 : decode cL_law 415 = .ok (.invokevirtual 59, 3) := by decide +kernel
theorem dL_law_418 : decode cL_law 418 = .ok (.if_icmp .eq 54, 3) := by decide +kernel
theorem dL_law_421 : decode cL_law 421 = .ok (.iconst 0, 1) := by decide +kernel
theorem dL_law_422 : decode cL_law 422 = .ok (.ireturn, 1) := by decide +kernel
theorem dL_law_423 : decode cL_law 423 = .ok (.aload_n 1, 1) := by decide +kernel
theorem dL_law_424 : decode cL_law 424 = .ok (.aload_n 0, 1) := by decide +kernel
theorem dL_law_425 : decode cL_law 425 = .ok (.iload_n 3, 1) := by decide +kernel
theorem dL_law_426 : decode cL_law 426 = .ok (.iconst 1, 1) := by decide +kernel
theorem dL_law_427 : decode cL_law 427 = .ok (.iadd, 1) := by decide +kernel
theorem dL_law_428 : decode cL_law 428 = .ok (.iaload, 1) := by decide +kernel
theorem dL_law_429 : decode cL_law 429 = .ok (.invokevirtual 60, 3) := by decide +kernel
theorem dL_law_432 : decode cL_law 432 = .ok (.aload_n 2, 1) := by decide +kernel
theorem dL_law_433 : decode cL_law 433 = .ok (.aload_n 0, 1) := by decide +kernel
theorem dL_law_434 : decode cL_law 434 = .ok (.iload_n 3, 1) := by decide +kernel
theorem dL_law_435 : decode cL_law 435 = .ok (.iconst 1, 1) := by decide +kernel
theorem dL_law_436 : decode cL_law 436 = .ok (.iadd, 1) := by decide +kernel
theorem dL_law_437 : decode cL_law 437 = .ok (.iaload, 1) := by decide +kernel
theorem dL_law_438 : decode cL_law 438 = .ok (.invokevirtual 63, 3) := by decide +kernel
theorem dL_law_441 : decode cL_law 441 = .ok (.if_icmp .eq 31, 3) := by decide +kernel
theorem dL_law_444 : decode cL_law 444 = .ok (.iconst 0, 1) := by decide +kernel
theorem dL_law_445 : decode cL_law 445 = .ok (.ireturn, 1) := by decide +kernel
theorem dL_law_446 : decode cL_law 446 = .ok (.aload_n 1, 1) := by decide +kernel
theorem dL_law_447 : decode cL_law 447 = .ok (.invokevirtual 64, 3) := by decide +kernel
theorem dL_law_450 : decode cL_law 450 = .ok (.aload_n 2, 1) := by decide +kernel
theorem dL_law_451 : decode cL_law 451 = .ok (.invokevirtual 68, 3) := by decide +kernel
theorem dL_law_454 : decode cL_law 454 = .ok (.if_icmp .eq 18, 3) := by decide +kernel
theorem dL_law_457 : decode cL_law 457 = .ok (.iconst 0, 1) := by decide +kernel
theorem dL_law_458 : decode cL_law 458 = .ok (.ireturn, 1) := by decide +kernel
theorem dL_law_459 : decode cL_law 459 = .ok (.aload_n 1, 1) := by decide +kernel
theorem dL_law_460 : decode cL_law 460 = .ok (.invokevirtual 69, 3) := by decide +kernel
theorem dL_law_463 : decode cL_law 463 = .ok (.aload_n 2, 1) := by decide +kernel
theorem dL_law_464 : decode cL_law 464 = .ok (.invokevirtual 72, 3) := by decide +kernel
theorem dL_law_467 : decode cL_law 467 = .ok (.if_icmp .eq 5, 3) := by decide +kernel
theorem dL_law_470 : decode cL_law 470 = .ok (.iconst 0, 1) := by decide +kernel
theorem dL_law_471 : decode cL_law 471 = .ok (.ireturn, 1) := by decide +kernel
theorem dL_law_472 : decode cL_law 472 = .ok (.iinc 3 5, 3) := by decide +kernel
theorem dL_law_475 : decode cL_law 475 = .ok (.goto (-457), 3) := by decide +kernel
theorem dL_law_478 : decode cL_law 478 = .ok (.iconst 1, 1) := by decide +kernel
theorem dL_law_479 : decode cL_law 479 = .ok (.ireturn, 1) := by decide +kernel
end
section
/-! ===== a state of numbers: cell k, place j ===== -/
abbrev pt_St : Type := Nat → Nat → Int32
def pt_put (σ : pt_St) (k j : Nat) (v : Int32) : pt_St := fun k' => if k' = k then upd (σ k) j v else σ k'
abbrev pt_in (i : Int32) (n : Nat) : Prop := ¬ (i < 0 ∨ n ≤ i.toNatClampNeg)
/-- a name for what is made -/
def pt_do {α β : Type} (a : α) (f : α → β) : β := f a
theorem pt_dos {α β : Type} {a : α} {f : α → β} {b : β} (h : pt_do a f = b) : ∃ z, z = a ∧ f z = b := ⟨a, rfl, h⟩
theorem pt_ip {c : Prop} [Decidable c] {α : Type} {a b x : α} (hc : c) (h : (if c then a else b) = x) : a = x := by rw [if_pos hc] at h; exact h
theorem pt_iN {c : Prop} [Decidable c] {α : Type} {a b x : α} (hc : ¬ c) (h : (if c then a else b) = x) : b = x := by rw [if_neg hc] at h; exact h
theorem pt_gd {c : Prop} [Decidable c] {α : Type} {a : Option α} {x : α} (h : (if c then a else none) = some x) : c ∧ a = some x := by
  by_cases hc : c
  · rw [if_pos hc] at h; exact ⟨hc, h⟩
  · rw [if_neg hc] at h; cases h
theorem pt_bd {α β : Type} {o : Option α} {f : α → Option β} {b : β} (h : o.bind f = some b) : ∃ a, o = some a ∧ f a = some b := by
  cases o with
  | none => cases h
  | some a => exact ⟨a, rfl, h⟩
theorem pt_pr {α β : Type} {a c : α} {b d : β} (h : some (a, b) = some (c, d)) : c = a ∧ d = b := by cases h; exact ⟨rfl, rfl⟩
theorem pt_so {α : Type} {a c : α} (h : some a = some c) : c = a := by cases h; rfl
theorem pt_in_lt {i : Int32} {n : Nat} (h : pt_in i n) : i.toNatClampNeg < n := Nat.not_le.mp fun q => h (Or.inr q)
/-- how far a loop is followed -/
def pt_F : Nat := 1000
/-- a worker's number, as it stands in the line -/
abbrev pt_iw (x : Int32) : Prop := ¬ (x < 0 ∨ 6 ≤ x.toNatClampNeg)
def pt_ln (ad : Nat → Nat) (x : Int32) : Option Nat := if pt_iw x then some (ad (9 + x.toNatClampNeg)) else none
/-! ===== the words of nest mates ===== -/
def pt_nf : List (String × Nat × String × String × String × String) := [(RX6, 194, "PackThreads$Memory", "inLine", "I", "PackThreads"), (RX6, 210, "PackThreads$Memory", "left", "I", "PackThreads"), (RX6, 213, "PackThreads$Row", "packs", "I", "PackThreads"), (RX6, 112, "PackThreads$Row", "joined", "I", "PackThreads"), (RX6, 127, "PackThreads$Failed", "inLine", "I", "PackThreads"), (RX1, 36, "PackThreads$Worker", "number", "I", "PackThreads"), (RX6, 92, "PackThreads$Worker", "state", "I", "PackThreads"), (RX6, 152, "PackThreads$Worker", "block", "I", "PackThreads"), (RX6, 155, "PackThreads$Worker", "step", "I", "PackThreads"), (RX1, 24, "PackThreads$Worker", "cells", "I", "PackThreads"), (RX6, 173, "PackThreads$Worker", "cells", "I", "PackThreads"), (RX6, 201, "PackThreads$Worker", "made", "I", "PackThreads"), (RX6, 204, "PackThreads$Worker", "timesEnded", "I", "PackThreads"), (RX6, 105, "PackThreads$Worker", "interrupted", "Z", "PackThreads")]
abbrev pt_nw (U : State) : Prop := ∀ q ∈ pt_nf, va_Nw (.fieldLinkNest q.1 q.2.1 q.2.2.1 q.2.2.2.1 q.2.2.2.2.1 q.2.2.2.2.2) U
abbrev pt_KK (D : va_G) (tys : List (ClassId × FieldType)) (U : State) : Prop := va_K D vwCl tys U ∧ pt_nw U
theorem pt_KK.moved {D : va_G} {tys : List (ClassId × FieldType)} {s U : State} (hW : s.WarmedH U.vm) (h : pt_KK D tys s) : pt_KK D tys U := ⟨va_K.moved hW.alike h.1, fun q hq => (h.2 q hq).warmF hW⟩
theorem pt_KK.same {D : va_G} {tys : List (ClassId × FieldType)} {u U : State} (hv : u.vm = U.vm) (h : pt_KK D tys u) : pt_KK D tys U := ⟨va_K.moved (by rw [hv]; exact Vm.Alike.refl _) h.1, fun q hq => (h.2 q hq).same rfl hv⟩
/-! ===== a method's start and end ===== -/
def pt_Pre (D : va_G) (tys : List (ClassId × FieldType)) (w : va_W) (U : State) : Prop := va_P D vwCl w U.heap ∧ pt_KK D tys U
def pt_Q (v0 : Option Value) (D : va_G) (w : va_W) (A : Nat → Prop) : Array Value → State → Outcome → State → Prop := fun _ st oc t => oc = .returned v0 ∧ va_P D vwCl w t.heap ∧ va_F A st t
theorem pt_blind {av : List Value} {D : va_G} {tys : List (ClassId × FieldType)} {w : va_W} : FrameBlind (va_Pc av (pt_Pre D tys w)) := fun a U g mk q => ⟨q.1, q.2.1, pt_KK.same (u := U) (U := U.calling g mk a) rfl q.2.2⟩
section PT
variable {p : Program} {l : Launch} {e : Env} {R : Room} {s : State} {m : MethodId} {args : Array Value} {below : List Frame} {meth : Method} {c : Code} {H : Heap} {locs : List Loc} {cells slots : Nat} {Q : State → Prop}
variable {cc : ByteArray} {pc : Nat} {ls : Array Slot} {rest : List Value} {D : va_G} {A : Nat → Prop} {a : Nat} {tys : List (ClassId × FieldType)} {H0 : Heap} {w w' : va_W} {own : String} {Ts : List Cond} {nL : Nat}
/-- a field is read -/
theorem pt_g {C : String} {T : u_T} {N ci index : Nat} (S : CallFix p m c cc nL s args Ts own) (hin : ∀ w ∈ u_ws C T N, w ∈ Ts) (hK : pt_KK D tys s) (hP : va_P D vwCl w H) (q0 : Nat) {fs : List Value} (he : w[q0]? = some (a, .inr (ci, fs))) (hc : vwCl[ci]? = some (C, T, N)) (k : Nat) (hk : k < N) (hlink : (Cond.fieldLink own index (T k).1 (T k).2.1 (T k).2.2.1).before args s = true) {v : Value} (hv : fs[k]? = some v) (hdg : decode cc pc = .ok (.getfield index, 3))
    (kk : W p l e R s m args below meth c H locs cells slots Q (F0 m (pc + 3) ls (v :: rest))) : W p l e R s m args below meth c H locs cells slots Q (F0 m pc ls (.ref a :: rest)) :=
  va_get S.1 S.2.1 S.2.2.2.2 hin S.2.2.2.1 hK.1 hP q0 he hc k hk hlink (fun _ h => h) hv hdg kk
theorem pt_gN {C host : String} {T : u_T} {N ci index : Nat} (S : CallFix p m c cc nL s args Ts own) (hin : ∀ w ∈ u_ws C T N, w ∈ Ts) (hK : pt_KK D tys s) (hP : va_P D vwCl w H) (q0 : Nat) {fs : List Value} (he : w[q0]? = some (a, .inr (ci, fs))) (hc : vwCl[ci]? = some (C, T, N)) (k : Nat) (hk : k < N) (hlink : (own, index, (T k).1, (T k).2.1, (T k).2.2.1, host) ∈ pt_nf) {v : Value} (hv : fs[k]? = some v) (hdg : decode cc pc = .ok (.getfield index, 3))
    (kk : W p l e R s m args below meth c H locs cells slots Q (F0 m (pc + 3) ls (v :: rest))) : W p l e R s m args below meth c H locs cells slots Q (F0 m pc ls (.ref a :: rest)) :=
  va_getN (host := host) S.1 S.2.1 S.2.2.2.2 hin S.2.2.2.1 hK.1 hP q0 he hc k hk (va_Nw.use rfl (hK.2 _ hlink)) (fun _ h => h) hv hdg kk
/-- a field is written -/
theorem pt_p {C : String} {T : u_T} {N ci index : Nat} (S : CallFix p m c cc nL s args Ts own) (hin : ∀ w ∈ u_ws C T N, w ∈ Ts) {ty0 : Nat → FieldType} (hty : ∀ k, k < N → parseFieldDescriptor (T k).2.2.1 = some (ty0 k)) (hnm : ∀ a, a < N → ∀ b, b < N → a ≠ b → (T a).2.1 ≠ (T b).2.1) (hK : pt_KK D tys s) (hP : va_P D vwCl w H) (hD : va_D A w) (hS : va_S A H0 H locs) (q0 : Nat) {fs : List Value} (he : w[q0]? = some (a, .inr (ci, fs))) (hc : vwCl[ci]? = some (C, T, N)) (k : Nat) (hk : k < N) (hlink : (Cond.fieldLink own index (T k).1 (T k).2.1 (T k).2.2.1).before args s = true) (hfin : (T k).2.2.2 = false) {v : Value} (hn : narrow (ty0 k) v = v) (hfit : fits (ty0 k) v = true) (hl : k < fs.length) (hset : w.set q0 (a, .inr (ci, fs.set k v)) = w') (hdg : decode cc pc = .ok (.putfield index, 3))
    (kk : ∀ (H1 : Heap) (locs1 : List Loc), va_P D vwCl w' H1 → va_S A H0 H1 locs1 → W p l e R s m args below meth c H1 locs1 cells slots Q (F0 m (pc + 3) ls rest)) : W p l e R s m args below meth c H locs cells slots Q (F0 m pc ls (v :: .ref a :: rest)) :=
  va_put S.1 S.2.1 S.2.2.2.2 hin ty0 hty hnm S.2.2.2.1 hK.1 hP hD hS q0 he hc k hk hlink (fun _ h => h) hfin (hty k hk) hn hfit hl hdg (fun H1 locs1 hP1 _ hS1 => kk H1 locs1 (by rw [← hset]; exact hP1) hS1)
theorem pt_pN {C host : String} {T : u_T} {N ci index : Nat} (S : CallFix p m c cc nL s args Ts own) (hin : ∀ w ∈ u_ws C T N, w ∈ Ts) {ty0 : Nat → FieldType} (hty : ∀ k, k < N → parseFieldDescriptor (T k).2.2.1 = some (ty0 k)) (hnm : ∀ a, a < N → ∀ b, b < N → a ≠ b → (T a).2.1 ≠ (T b).2.1) (hK : pt_KK D tys s) (hP : va_P D vwCl w H) (hD : va_D A w) (hS : va_S A H0 H locs) (q0 : Nat) {fs : List Value} (he : w[q0]? = some (a, .inr (ci, fs))) (hc : vwCl[ci]? = some (C, T, N)) (k : Nat) (hk : k < N) (hlink : (own, index, (T k).1, (T k).2.1, (T k).2.2.1, host) ∈ pt_nf) (hfin : (T k).2.2.2 = false) {v : Value} (hn : narrow (ty0 k) v = v) (hfit : fits (ty0 k) v = true) (hl : k < fs.length) (hset : w.set q0 (a, .inr (ci, fs.set k v)) = w') (hdg : decode cc pc = .ok (.putfield index, 3))
    (kk : ∀ (H1 : Heap) (locs1 : List Loc), va_P D vwCl w' H1 → va_S A H0 H1 locs1 → W p l e R s m args below meth c H1 locs1 cells slots Q (F0 m (pc + 3) ls rest)) : W p l e R s m args below meth c H locs cells slots Q (F0 m pc ls (v :: .ref a :: rest)) :=
  va_putN (host := host) S.1 S.2.1 S.2.2.2.2 hin ty0 hty hnm S.2.2.2.1 hK.1 hP hD hS q0 he hc k hk (va_Nw.use rfl (hK.2 _ hlink)) (fun _ h => h) hfin (hty k hk) hn hfit hl hdg (fun H1 locs1 hP1 _ hS1 => kk H1 locs1 (by rw [← hset]; exact hP1) hS1)
/-- rows of numbers -/
theorem pt_ild (S : CallFix p m c cc nL s args Ts own) (hK : pt_KK D tys s) (hP : va_P D vwCl w H) (q0 t0 : Nat) {cA : ClassId} {n : Nat} {f : Nat → Int32} (ha : w[q0]? = some (a, .inl (cA, n, .inl f))) (ht : tys[t0]? = some (cA, .int)) {i : Int32} (hin : pt_in i n) (hdg : decode cc pc = .ok (.iaload, 1))
    (kk : W p l e R s m args below meth c H locs cells slots Q (F0 m (pc + 1) ls (.int (f i.toNatClampNeg) :: rest))) : W p l e R s m args below meth c H locs cells slots Q (F0 m pc ls (.int i :: .ref a :: rest)) :=
  va_iald S.1 S.2.1 hK.1 hP q0 t0 ha ht hin hdg kk
theorem pt_zld (S : CallFix p m c cc nL s args Ts own) (hK : pt_KK D tys s) (hP : va_P D vwCl w H) (q0 t0 : Nat) {cA : ClassId} {n : Nat} {f : Nat → Int32} (ha : w[q0]? = some (a, .inl (cA, n, .inl f))) (ht : tys[t0]? = some (cA, .boolean)) {i : Int32} (hin : pt_in i n) (hdg : decode cc pc = .ok (.baload, 1))
    (kk : W p l e R s m args below meth c H locs cells slots Q (F0 m (pc + 1) ls (.int (f i.toNatClampNeg) :: rest))) : W p l e R s m args below meth c H locs cells slots Q (F0 m pc ls (.int i :: .ref a :: rest)) :=
  va_zald S.1 S.2.1 hK.1 hP q0 t0 ha ht hin hdg kk
theorem pt_ist (S : CallFix p m c cc nL s args Ts own) (hK : pt_KK D tys s) (hP : va_P D vwCl w H) (hD : va_D A w) (hS : va_S A H0 H locs) (q0 t0 : Nat) {cA : ClassId} {n : Nat} {f : Nat → Int32} (ha : w[q0]? = some (a, .inl (cA, n, .inl f))) (ht : tys[t0]? = some (cA, .int)) {i x : Int32} (hin : pt_in i n) (hset : w.set q0 (a, .inl (cA, n, .inl (upd f i.toNatClampNeg x))) = w') (hdg : decode cc pc = .ok (.iastore, 1))
    (kk : ∀ (H1 : Heap) (locs1 : List Loc), va_P D vwCl w' H1 → va_S A H0 H1 locs1 → W p l e R s m args below meth c H1 locs1 cells slots Q (F0 m (pc + 1) ls rest)) : W p l e R s m args below meth c H locs cells slots Q (F0 m pc ls (.int x :: .int i :: .ref a :: rest)) :=
  va_iast S.1 S.2.1 hK.1 hP hD hS q0 t0 ha ht hin hdg (fun H1 locs1 hP1 _ hS1 => kk H1 locs1 (by rw [← hset]; exact hP1) hS1)
theorem pt_zst (S : CallFix p m c cc nL s args Ts own) (hK : pt_KK D tys s) (hP : va_P D vwCl w H) (hD : va_D A w) (hS : va_S A H0 H locs) (q0 t0 : Nat) {cA : ClassId} {n : Nat} {f : Nat → Int32} (ha : w[q0]? = some (a, .inl (cA, n, .inl f))) (ht : tys[t0]? = some (cA, .boolean)) {i x : Int32} (hin : pt_in i n) (hset : w.set q0 (a, .inl (cA, n, .inl (upd f i.toNatClampNeg (vp_nar .boolean x)))) = w') (hdg : decode cc pc = .ok (.bastore, 1))
    (kk : ∀ (H1 : Heap) (locs1 : List Loc), va_P D vwCl w' H1 → va_S A H0 H1 locs1 → W p l e R s m args below meth c H1 locs1 cells slots Q (F0 m (pc + 1) ls rest)) : W p l e R s m args below meth c H locs cells slots Q (F0 m pc ls (.int x :: .int i :: .ref a :: rest)) :=
  va_zast S.1 S.2.1 hK.1 hP hD hS q0 t0 ha ht hin hdg (fun H1 locs1 hP1 _ hS1 => kk H1 locs1 (by rw [← hset]; exact hP1) hS1)
theorem pt_len (S : CallFix p m c cc nL s args Ts own) (hK : pt_KK D tys s) (hP : va_P D vwCl w H) (q0 t0 : Nat) {cA : ClassId} {x : vp_A} (ha : w[q0]? = some (a, .inl (cA, x))) {ty : FieldType} (ht : tys[t0]? = some (cA, ty)) {v : Int32} (hv : Int32.ofNat x.1 = v) (hdg : decode cc pc = .ok (.arraylength, 1))
    (kk : W p l e R s m args below meth c H locs cells slots Q (F0 m (pc + 1) ls (.int v :: rest))) : W p l e R s m args below meth c H locs cells slots Q (F0 m pc ls (.ref a :: rest)) :=
  va_alen S.1 S.2.1 hK.1 hP q0 t0 ha ht hv hdg kk
theorem pt_ald (S : CallFix p m c cc nL s args Ts own) (hK : pt_KK D tys s) (hP : va_P D vwCl w H) (q0 t0 : Nat) {cA : ClassId} {C : String} {n : Nat} {f : Nat → Option Nat} (ha : w[q0]? = some (a, .inl (cA, n, .inr (.inr (.inr (.inr f)))))) (ht : tys[t0]? = some (cA, .object C)) {i : Int32} (hin : pt_in i n) {v : Value} (hv : va_rf (f i.toNatClampNeg) = v) (hdg : decode cc pc = .ok (.aaload, 1))
    (kk : W p l e R s m args below meth c H locs cells slots Q (F0 m (pc + 1) ls (v :: rest))) : W p l e R s m args below meth c H locs cells slots Q (F0 m pc ls (.int i :: .ref a :: rest)) := by
  subst hv
  exact va_aldq S.1 S.2.1 hK.1 hP q0 t0 ha ht hin hdg kk
/-- a call behind its run -/
theorem pt_run {v0 : Option Value} {A0 : Nat → Prop} {a0 : Array Value} {st0 : List Value} (hr : va_Run p l e R s m args below meth c H locs cells slots 0 0 (F0 m pc ls st0) rest (pt_Q v0 D w' A a0) A) (hS : va_S A0 H0 H locs) (hA : ∀ q, A q → A0 q)
    (kk : ∀ (H1 : Heap) (locs1 : List Loc), va_P D vwCl w' H1 → va_S A0 H0 H1 locs1 → H.size ≤ H1.size → (∀ q : Nat, q < H.size → ¬ A q → H1[q]? = H[q]?) → W p l e R s m args below meth c H1 locs1 cells slots Q (F0 m (pc + 3) ls (v0.toList ++ rest))) : W p l e R s m args below meth c H locs cells slots Q (F0 m pc ls st0) := by
  intro T hT X
  obtain ⟨v, st₀, t, T', L, h0, X', hL, e1, e2, ⟨hv, hP1, hz, hk⟩, st⟩ := hr T hT X
  cases hv
  rw [h0] at hz hk
  obtain ⟨t2, a1, b1⟩ := kk T'.heap (locs ++ L) (by rw [e1]; exact hP1) ⟨Nat.le_trans hS.1 (by rw [e1]; exact hz), fun q h1 h2 => by rw [e1, hk q (Nat.lt_of_lt_of_le h1 hS.1) (fun z => h2 (hA q z))]; exact hS.2.1 q h1 h2, fun q hq => by
      rcases List.mem_append.mp hq with h | h
      · exact hS.2.2 q h
      · exact hA _ (hL q h)⟩ (by rw [e1]; exact hz) (fun q h1 h2 => by rw [e1]; exact hk q h1 h2) T' rfl X'
  exact ⟨t2, st t2 a1, b1⟩
variable {y : MethodName} {bytes : ByteArray} {maxL n index : Nat} {ret : Option FieldType} {ws : List Cond} {rm : Room} {b : Addr} {As st : List Value} {v0 : Option Value}
theorem pt_cV {C : String} {T : u_T} {N : Nat} (S : CallFix p m c cc nL s args Ts own) (hM : Met l y ws rm (va_Pc (.ref b :: As) (pt_Pre D tys w)) (pt_Q v0 D w' A) 0 0 A) (cw : CallW R s args own C index y bytes maxL ret ws rm 0 0 n) (hK : pt_KK D tys s) (hP : va_P D vwCl w H) (hS : va_S A H0 H locs) (q0 ci : Nat) {fs : List Value} (he : w[q0]? = some (b, .inr (ci, fs))) (hc : vwCl[ci]? = some (C, T, N)) (hn : As.length = n) (hl : ls.size = nL) (hst : st = As.reverse ++ .ref b :: rest) (hroom : (rest.map fun v => v.category).sum ≤ 8) (hdg : decode cc pc = .ok (.invokevirtual index, 3)) (hcs : cells ≤ R.cells ∧ slots ≤ R.slots)
    (kk : ∀ (H1 : Heap) (locs1 : List Loc), va_P D vwCl w' H1 → va_S A H0 H1 locs1 → W p l e R s m args below meth c H1 locs1 cells slots Q (F0 m (pc + 3) ls (v0.toList ++ rest))) : W p l e R s m args below meth c H locs cells slots Q (F0 m pc ls st) :=
  pt_run (va_runV S hM cw ⟨pt_blind, va_recv hK.1 hP hc he, fun U hU hW => ⟨rfl, by rw [hU]; exact hP, hK.moved hW⟩⟩ rfl hn hl hst (lv_room hroom) hdg hcs) hS (fun _ h => h) (fun H1 locs1 hP1 hS1 _ _ => kk H1 locs1 hP1 hS1)
theorem pt_cS (S : CallFix p m c cc nL s args Ts own) (hM : Met l y ws rm (va_Pc As (pt_Pre D tys w)) (pt_Q v0 D w' A) 0 0 A) (cw : CallB R s args own index y bytes maxL ret ws rm 0 0 n ∧ (Cond.static y).before args s = true) (hK : pt_KK D tys s) (hP : va_P D vwCl w H) (hS : va_S A H0 H locs) (hn : As.length = n) (hl : ls.size = nL) (hst : st = As.reverse ++ rest) (hroom : (rest.map fun v => v.category).sum ≤ 8) (hdg : decode cc pc = .ok (.invokestatic index, 3)) (hcs : cells ≤ R.cells ∧ slots ≤ R.slots)
    (kk : ∀ (H1 : Heap) (locs1 : List Loc), va_P D vwCl w' H1 → va_S A H0 H1 locs1 → W p l e R s m args below meth c H1 locs1 cells slots Q (F0 m (pc + 3) ls (v0.toList ++ rest))) : W p l e R s m args below meth c H locs cells slots Q (F0 m pc ls st) :=
  pt_run (va_runS S hM cw ⟨pt_blind, fun U hU hW => ⟨rfl, by rw [hU]; exact hP, hK.moved hW⟩⟩ rfl hn hl hst (lv_room hroom) hdg hcs) hS (fun _ h => h) (fun H1 locs1 hP1 hS1 _ _ => kk H1 locs1 hP1 hS1)
end PT
end
section
def wC (ca : Nat → ClassId) (ad : Nat → Nat) (σ : pt_St) : va_W :=
  [(ad 0, .inr (9, [.ref (ad 1), .ref (ad 2), .ref (ad 3), .ref (ad 4), .ref (ad 5), .int (σ 0 5)])),
   (ad 1, .inr (7, [.ref (ad 15), .int (σ 1 1)])),
   (ad 2, .inr (5, [.int (σ 2 0), .int (σ 2 1), .int (σ 2 2), .int (σ 2 3)])),
   (ad 3, .inr (3, [.ref (ad 16), .ref (ad 17), .ref (ad 18)])),
   (ad 4, .inr (2, [.ref (ad 1), .ref (ad 2), .ref (ad 19), .ref (ad 20), .ref (ad 21), .int (σ 4 5), .int (σ 4 6), .int (σ 4 7), .int (σ 4 8)])),
   (ad 5, .inr (6, [.ref (ad 4), .ref (ad 3), .ref (ad 22), .ref (ad 6), .ref (ad 7), .ref (ad 8), .int (σ 5 6), .int (σ 5 7), .int (σ 5 8), .int (σ 5 9), .int (σ 5 10), .int (σ 5 11), .int (σ 5 12)])),
   (ad 6, .inr (1, [.ref (ad 23), .int (σ 6 1), .int (σ 6 2)])),
   (ad 7, .inr (4, [.ref (ad 24), .int (σ 7 1), .int (σ 7 2), .int (σ 7 3)])),
   (ad 8, .inr (0, [.ref (ad 25), .ref (ad 26), .int (σ 8 2)])),
   (ad 9, .inr (8, [.int (σ 9 0), .int (σ 9 1), .int (σ 9 2), .int (σ 9 3), .int (σ 9 4), .int (σ 9 5), .int (σ 9 6), .int (σ 9 7)])),
   (ad 10, .inr (8, [.int (σ 10 0), .int (σ 10 1), .int (σ 10 2), .int (σ 10 3), .int (σ 10 4), .int (σ 10 5), .int (σ 10 6), .int (σ 10 7)])),
   (ad 11, .inr (8, [.int (σ 11 0), .int (σ 11 1), .int (σ 11 2), .int (σ 11 3), .int (σ 11 4), .int (σ 11 5), .int (σ 11 6), .int (σ 11 7)])),
   (ad 12, .inr (8, [.int (σ 12 0), .int (σ 12 1), .int (σ 12 2), .int (σ 12 3), .int (σ 12 4), .int (σ 12 5), .int (σ 12 6), .int (σ 12 7)])),
   (ad 13, .inr (8, [.int (σ 13 0), .int (σ 13 1), .int (σ 13 2), .int (σ 13 3), .int (σ 13 4), .int (σ 13 5), .int (σ 13 6), .int (σ 13 7)])),
   (ad 14, .inr (8, [.int (σ 14 0), .int (σ 14 1), .int (σ 14 2), .int (σ 14 3), .int (σ 14 4), .int (σ 14 5), .int (σ 14 6), .int (σ 14 7)])),
   (ad 15, .inl (ca 15, 160, .inl (σ 15))),
   (ad 16, .inl (ca 16, 40, .inl (σ 16))),
   (ad 17, .inl (ca 17, 40, .inl (σ 17))),
   (ad 18, .inl (ca 18, 40, .inl (σ 18))),
   (ad 19, .inl (ca 19, 240, .inl (σ 19))),
   (ad 20, .inl (ca 20, 40, .inl (σ 20))),
   (ad 21, .inl (ca 21, 40, .inl (σ 21))),
   (ad 22, .inl (ca 22, 6, .inr (.inr (.inr (.inr (fun j => some (ad (9 + j)))))))),
   (ad 23, .inl (ca 23, 6, .inr (.inr (.inr (.inr (fun j => pt_ln ad (σ 23 j))))))),
   (ad 24, .inl (ca 24, 40, .inl (σ 24))),
   (ad 25, .inl (ca 25, 40, .inl (σ 25))),
   (ad 26, .inl (ca 26, 40, .inl (σ 26)))]
abbrev tysC (ca : Nat → ClassId) : List (ClassId × FieldType) := [(ca 15, .int), (ca 16, .int), (ca 17, .int), (ca 18, .boolean), (ca 19, .int), (ca 20, .int), (ca 21, .int), (ca 22, .object "PackThreads$Worker"), (ca 23, .object "PackThreads$Worker"), (ca 24, .boolean), (ca 25, .boolean), (ca 26, .int)]
def wR (ca : Nat → ClassId) (ad : Nat → Nat) (σ : pt_St) : va_W :=
  [(ad 0, .inr (10, [.ref (ad 1), .int (σ 0 1), .int (σ 0 2), .int (σ 0 3), .int (σ 0 4), .int (σ 0 5), .ref (ad 2), .ref (ad 3), .ref (ad 4), .int (σ 0 9), .int (σ 0 10), .ref (ad 5), .ref (ad 6), .ref (ad 7), .int (σ 0 14), .int (σ 0 15), .int (σ 0 16), .ref (ad 8), .ref (ad 9), .ref (ad 10), .ref (ad 11), .ref (ad 12), .ref (ad 13), .int (σ 0 23), .int (σ 0 24), .ref (ad 14), .ref (ad 15), .int (σ 0 27), .ref (ad 16), .int (σ 0 29), .int (σ 0 30), .int (σ 0 31), .ref (ad 17), .int (σ 0 33), .int (σ 0 34), .int (σ 0 35), .int (σ 0 36), .int (σ 0 37)])),
   (ad 1, .inl (ca 1, 160, .inl (σ 1))),
   (ad 2, .inl (ca 2, 40, .inl (σ 2))),
   (ad 3, .inl (ca 3, 40, .inl (σ 3))),
   (ad 4, .inl (ca 4, 40, .inl (σ 4))),
   (ad 5, .inl (ca 5, 700, .inl (σ 5))),
   (ad 6, .inl (ca 6, 40, .inl (σ 6))),
   (ad 7, .inl (ca 7, 40, .inl (σ 7))),
   (ad 8, .inl (ca 8, 6, .inl (σ 8))),
   (ad 9, .inl (ca 9, 6, .inl (σ 9))),
   (ad 10, .inl (ca 10, 6, .inl (σ 10))),
   (ad 11, .inl (ca 11, 6, .inl (σ 11))),
   (ad 12, .inl (ca 12, 6, .inl (σ 12))),
   (ad 13, .inl (ca 13, 6, .inl (σ 13))),
   (ad 14, .inl (ca 14, 40, .inl (σ 14))),
   (ad 15, .inl (ca 15, 40, .inl (σ 15))),
   (ad 16, .inl (ca 16, 40, .inl (σ 16))),
   (ad 17, .inl (ca 17, 6, .inl (σ 17)))]
abbrev tysR (ca : Nat → ClassId) : List (ClassId × FieldType) := [(ca 1, .int), (ca 2, .int), (ca 3, .int), (ca 4, .boolean), (ca 5, .int), (ca 6, .int), (ca 7, .int), (ca 8, .int), (ca 9, .int), (ca 10, .int), (ca 11, .int), (ca 12, .int), (ca 13, .boolean), (ca 14, .boolean), (ca 15, .int), (ca 16, .boolean), (ca 17, .int)]
theorem pt_w8 {n : Nat} (hn : n < 6) (ca : Nat → ClassId) (ad : Nat → Nat) (σ : pt_St) : (wC ca ad σ)[9 + n]? = some (ad (9 + n), .inr (8, [.int (σ (9 + n) 0), .int (σ (9 + n) 1), .int (σ (9 + n) 2), .int (σ (9 + n) 3), .int (σ (9 + n) 4), .int (σ (9 + n) 5), .int (σ (9 + n) 6), .int (σ (9 + n) 7)])) := by
  rcases (show n = 0 ∨ n = 1 ∨ n = 2 ∨ n = 3 ∨ n = 4 ∨ n = 5 by omega) with rfl | rfl | rfl | rfl | rfl | rfl <;> rfl
theorem pt_w8_0 {n : Nat} (hn : n < 6) (ca : Nat → ClassId) (ad : Nat → Nat) (σ : pt_St) (v : Int32) : (wC ca ad σ).set (9 + n) (ad (9 + n), .inr (8, [.int v, .int (σ (9 + n) 1), .int (σ (9 + n) 2), .int (σ (9 + n) 3), .int (σ (9 + n) 4), .int (σ (9 + n) 5), .int (σ (9 + n) 6), .int (σ (9 + n) 7)])) = wC ca ad (pt_put σ (9 + n) 0 v) := by
  rcases (show n = 0 ∨ n = 1 ∨ n = 2 ∨ n = 3 ∨ n = 4 ∨ n = 5 by omega) with rfl | rfl | rfl | rfl | rfl | rfl <;> rfl
theorem pt_w8_1 {n : Nat} (hn : n < 6) (ca : Nat → ClassId) (ad : Nat → Nat) (σ : pt_St) (v : Int32) : (wC ca ad σ).set (9 + n) (ad (9 + n), .inr (8, [.int (σ (9 + n) 0), .int v, .int (σ (9 + n) 2), .int (σ (9 + n) 3), .int (σ (9 + n) 4), .int (σ (9 + n) 5), .int (σ (9 + n) 6), .int (σ (9 + n) 7)])) = wC ca ad (pt_put σ (9 + n) 1 v) := by
  rcases (show n = 0 ∨ n = 1 ∨ n = 2 ∨ n = 3 ∨ n = 4 ∨ n = 5 by omega) with rfl | rfl | rfl | rfl | rfl | rfl <;> rfl
theorem pt_w8_2 {n : Nat} (hn : n < 6) (ca : Nat → ClassId) (ad : Nat → Nat) (σ : pt_St) (v : Int32) : (wC ca ad σ).set (9 + n) (ad (9 + n), .inr (8, [.int (σ (9 + n) 0), .int (σ (9 + n) 1), .int v, .int (σ (9 + n) 3), .int (σ (9 + n) 4), .int (σ (9 + n) 5), .int (σ (9 + n) 6), .int (σ (9 + n) 7)])) = wC ca ad (pt_put σ (9 + n) 2 v) := by
  rcases (show n = 0 ∨ n = 1 ∨ n = 2 ∨ n = 3 ∨ n = 4 ∨ n = 5 by omega) with rfl | rfl | rfl | rfl | rfl | rfl <;> rfl
theorem pt_w8_3 {n : Nat} (hn : n < 6) (ca : Nat → ClassId) (ad : Nat → Nat) (σ : pt_St) (v : Int32) : (wC ca ad σ).set (9 + n) (ad (9 + n), .inr (8, [.int (σ (9 + n) 0), .int (σ (9 + n) 1), .int (σ (9 + n) 2), .int v, .int (σ (9 + n) 4), .int (σ (9 + n) 5), .int (σ (9 + n) 6), .int (σ (9 + n) 7)])) = wC ca ad (pt_put σ (9 + n) 3 v) := by
  rcases (show n = 0 ∨ n = 1 ∨ n = 2 ∨ n = 3 ∨ n = 4 ∨ n = 5 by omega) with rfl | rfl | rfl | rfl | rfl | rfl <;> rfl
theorem pt_w8_4 {n : Nat} (hn : n < 6) (ca : Nat → ClassId) (ad : Nat → Nat) (σ : pt_St) (v : Int32) : (wC ca ad σ).set (9 + n) (ad (9 + n), .inr (8, [.int (σ (9 + n) 0), .int (σ (9 + n) 1), .int (σ (9 + n) 2), .int (σ (9 + n) 3), .int v, .int (σ (9 + n) 5), .int (σ (9 + n) 6), .int (σ (9 + n) 7)])) = wC ca ad (pt_put σ (9 + n) 4 v) := by
  rcases (show n = 0 ∨ n = 1 ∨ n = 2 ∨ n = 3 ∨ n = 4 ∨ n = 5 by omega) with rfl | rfl | rfl | rfl | rfl | rfl <;> rfl
theorem pt_w8_5 {n : Nat} (hn : n < 6) (ca : Nat → ClassId) (ad : Nat → Nat) (σ : pt_St) (v : Int32) : (wC ca ad σ).set (9 + n) (ad (9 + n), .inr (8, [.int (σ (9 + n) 0), .int (σ (9 + n) 1), .int (σ (9 + n) 2), .int (σ (9 + n) 3), .int (σ (9 + n) 4), .int v, .int (σ (9 + n) 6), .int (σ (9 + n) 7)])) = wC ca ad (pt_put σ (9 + n) 5 v) := by
  rcases (show n = 0 ∨ n = 1 ∨ n = 2 ∨ n = 3 ∨ n = 4 ∨ n = 5 by omega) with rfl | rfl | rfl | rfl | rfl | rfl <;> rfl
theorem pt_w8_6 {n : Nat} (hn : n < 6) (ca : Nat → ClassId) (ad : Nat → Nat) (σ : pt_St) (v : Int32) : (wC ca ad σ).set (9 + n) (ad (9 + n), .inr (8, [.int (σ (9 + n) 0), .int (σ (9 + n) 1), .int (σ (9 + n) 2), .int (σ (9 + n) 3), .int (σ (9 + n) 4), .int (σ (9 + n) 5), .int v, .int (σ (9 + n) 7)])) = wC ca ad (pt_put σ (9 + n) 6 v) := by
  rcases (show n = 0 ∨ n = 1 ∨ n = 2 ∨ n = 3 ∨ n = 4 ∨ n = 5 by omega) with rfl | rfl | rfl | rfl | rfl | rfl <;> rfl
theorem pt_w8_7 {n : Nat} (hn : n < 6) (ca : Nat → ClassId) (ad : Nat → Nat) (σ : pt_St) (v : Int32) : (wC ca ad σ).set (9 + n) (ad (9 + n), .inr (8, [.int (σ (9 + n) 0), .int (σ (9 + n) 1), .int (σ (9 + n) 2), .int (σ (9 + n) 3), .int (σ (9 + n) 4), .int (σ (9 + n) 5), .int (σ (9 + n) 6), .int v])) = wC ca ad (pt_put σ (9 + n) 7 v) := by
  rcases (show n = 0 ∨ n = 1 ∨ n = 2 ∨ n = 3 ∨ n = 4 ∨ n = 5 by omega) with rfl | rfl | rfl | rfl | rfl | rfl <;> rfl
theorem pt_lnW (ad : Nat → Nat) {x : Int32} (h : pt_iw x) : pt_ln ad x = some (ad (9 + x.toNatClampNeg)) := if_pos h
theorem pt_lnN (ad : Nat → Nat) {x : Int32} (h : ¬ pt_iw x) : pt_ln ad x = none := if_neg h
theorem pt_set23 (ca : Nat → ClassId) (ad : Nat → Nat) (σ : pt_St) (k : Nat) (x : Int32) : (wC ca ad σ).set 23 (ad 23, .inl (ca 23, 6, .inr (.inr (.inr (.inr (va_up (fun j => pt_ln ad (σ 23 j)) k (pt_ln ad x))))))) = wC ca ad (pt_put σ 23 k x) := by
  have e : va_up (fun j => pt_ln ad (σ 23 j)) k (pt_ln ad x) = fun j => pt_ln ad (pt_put σ 23 k x 23 j) := by
    funext j
    by_cases hj : j = k
    · subst hj; simp [va_up, pt_put, upd]
    · simp [va_up, pt_put, upd, hj]
  rw [e]; rfl
section PTF
variable {p : Program} {l : Launch} {e : Env} {R : Room} {s : State} {m : MethodId} {args : Array Value} {below : List Frame} {meth : Method} {c : Code} {H : Heap} {locs : List Loc} {cells slots : Nat} {Q : State → Prop}
variable {cc : ByteArray} {pc : Nat} {ls : Array Slot} {rest : List Value} {D : va_G} {A : Nat → Prop} {H0 : Heap} {own : String} {Ts : List Cond} {nL index : Nat} {ca : Nat → ClassId} {ad : Nat → Nat} {σ σ1 : pt_St} {v i : Int32}
theorem gf_X9_0 (S : CallFix p m c cc nL s args Ts own) (hin : ∀ w ∈ wsX90, w ∈ Ts) (hK : pt_KK D (tysC ca) s) (hP : va_P D vwCl (wC ca ad σ) H) (hlink : (Cond.fieldLink own index "PackThreads" "text" "LPackThreads$Text;").before args s = true) (hdg : decode cc pc = .ok (.getfield index, 3)) (kk : W p l e R s m args below meth c H locs cells slots Q (F0 m (pc + 3) ls (.ref (ad 1) :: rest))) : W p l e R s m args below meth c H locs cells slots Q (F0 m pc ls (.ref (ad 0) :: rest)) :=
  pt_g S hin hK hP 0 rfl rfl 0 (by decide) hlink rfl hdg kk
theorem gf_X9_1 (S : CallFix p m c cc nL s args Ts own) (hin : ∀ w ∈ wsX90, w ∈ Ts) (hK : pt_KK D (tysC ca) s) (hP : va_P D vwCl (wC ca ad σ) H) (hlink : (Cond.fieldLink own index "PackThreads" "settings" "LPackThreads$Settings;").before args s = true) (hdg : decode cc pc = .ok (.getfield index, 3)) (kk : W p l e R s m args below meth c H locs cells slots Q (F0 m (pc + 3) ls (.ref (ad 2) :: rest))) : W p l e R s m args below meth c H locs cells slots Q (F0 m pc ls (.ref (ad 0) :: rest)) :=
  pt_g S hin hK hP 0 rfl rfl 1 (by decide) hlink rfl hdg kk
theorem gf_X9_2 (S : CallFix p m c cc nL s args Ts own) (hin : ∀ w ∈ wsX90, w ∈ Ts) (hK : pt_KK D (tysC ca) s) (hP : va_P D vwCl (wC ca ad σ) H) (hlink : (Cond.fieldLink own index "PackThreads" "plants" "LPackThreads$Plants;").before args s = true) (hdg : decode cc pc = .ok (.getfield index, 3)) (kk : W p l e R s m args below meth c H locs cells slots Q (F0 m (pc + 3) ls (.ref (ad 3) :: rest))) : W p l e R s m args below meth c H locs cells slots Q (F0 m pc ls (.ref (ad 0) :: rest)) :=
  pt_g S hin hK hP 0 rfl rfl 2 (by decide) hlink rfl hdg kk
theorem gf_X9_3 (S : CallFix p m c cc nL s args Ts own) (hin : ∀ w ∈ wsX90, w ∈ Ts) (hK : pt_KK D (tysC ca) s) (hP : va_P D vwCl (wC ca ad σ) H) (hlink : (Cond.fieldLink own index "PackThreads" "packs" "LPackThreads$Packs;").before args s = true) (hdg : decode cc pc = .ok (.getfield index, 3)) (kk : W p l e R s m args below meth c H locs cells slots Q (F0 m (pc + 3) ls (.ref (ad 4) :: rest))) : W p l e R s m args below meth c H locs cells slots Q (F0 m pc ls (.ref (ad 0) :: rest)) :=
  pt_g S hin hK hP 0 rfl rfl 3 (by decide) hlink rfl hdg kk
theorem gf_X9_4 (S : CallFix p m c cc nL s args Ts own) (hin : ∀ w ∈ wsX90, w ∈ Ts) (hK : pt_KK D (tysC ca) s) (hP : va_P D vwCl (wC ca ad σ) H) (hlink : (Cond.fieldLink own index "PackThreads" "stream" "LPackThreads$Stream;").before args s = true) (hdg : decode cc pc = .ok (.getfield index, 3)) (kk : W p l e R s m args below meth c H locs cells slots Q (F0 m (pc + 3) ls (.ref (ad 5) :: rest))) : W p l e R s m args below meth c H locs cells slots Q (F0 m pc ls (.ref (ad 0) :: rest)) :=
  pt_g S hin hK hP 0 rfl rfl 4 (by decide) hlink rfl hdg kk
theorem gf_X9_5 (S : CallFix p m c cc nL s args Ts own) (hin : ∀ w ∈ wsX90, w ∈ Ts) (hK : pt_KK D (tysC ca) s) (hP : va_P D vwCl (wC ca ad σ) H) (hlink : (Cond.fieldLink own index "PackThreads" "begun" "Z").before args s = true) (hdg : decode cc pc = .ok (.getfield index, 3)) (kk : W p l e R s m args below meth c H locs cells slots Q (F0 m (pc + 3) ls (.int (σ 0 5) :: rest))) : W p l e R s m args below meth c H locs cells slots Q (F0 m pc ls (.ref (ad 0) :: rest)) :=
  pt_g S hin hK hP 0 rfl rfl 5 (by decide) hlink rfl hdg kk
theorem pf_X9_5 (S : CallFix p m c cc nL s args Ts own) (hin : ∀ w ∈ wsX90, w ∈ Ts) (hK : pt_KK D (tysC ca) s) (hP : va_P D vwCl (wC ca ad σ) H) (hDa : ∀ σ, va_D A (wC ca ad σ)) (hS : va_S A H0 H locs) (hlink : (Cond.fieldLink own index "PackThreads" "begun" "Z").before args s = true) (hz : v = 0 ∨ v = 1) (e1 : σ1 = (pt_put σ 0 5 v)) (hdg : decode cc pc = .ok (.putfield index, 3)) (kk : ∀ (H1 : Heap) (locs1 : List Loc), va_P D vwCl (wC ca ad σ1) H1 → va_S A H0 H1 locs1 → W p l e R s m args below meth c H1 locs1 cells slots Q (F0 m (pc + 3) ls rest)) : W p l e R s m args below meth c H locs cells slots Q (F0 m pc ls (.int v :: .ref (ad 0) :: rest)) := by
  subst e1
  exact pt_p S hin tyX9_ok nmX9 hK hP (hDa σ) hS 0 rfl rfl 5 (by decide) hlink rfl (by rcases hz with rfl | rfl <;> rfl) (by rcases hz with rfl | rfl <;> rfl) (Nat.le_of_ble_eq_true rfl) rfl hdg kk
theorem gf_X7_0 (S : CallFix p m c cc nL s args Ts own) (hin : ∀ w ∈ wsX70, w ∈ Ts) (hK : pt_KK D (tysC ca) s) (hP : va_P D vwCl (wC ca ad σ) H) (hlink : (Cond.fieldLink own index "PackThreads$Text" "bytes" "[I").before args s = true) (hdg : decode cc pc = .ok (.getfield index, 3)) (kk : W p l e R s m args below meth c H locs cells slots Q (F0 m (pc + 3) ls (.ref (ad 15) :: rest))) : W p l e R s m args below meth c H locs cells slots Q (F0 m pc ls (.ref (ad 1) :: rest)) :=
  pt_g S hin hK hP 1 rfl rfl 0 (by decide) hlink rfl hdg kk
theorem gf_X7_1 (S : CallFix p m c cc nL s args Ts own) (hin : ∀ w ∈ wsX70, w ∈ Ts) (hK : pt_KK D (tysC ca) s) (hP : va_P D vwCl (wC ca ad σ) H) (hlink : (Cond.fieldLink own index "PackThreads$Text" "length" "I").before args s = true) (hdg : decode cc pc = .ok (.getfield index, 3)) (kk : W p l e R s m args below meth c H locs cells slots Q (F0 m (pc + 3) ls (.int (σ 1 1) :: rest))) : W p l e R s m args below meth c H locs cells slots Q (F0 m pc ls (.ref (ad 1) :: rest)) :=
  pt_g S hin hK hP 1 rfl rfl 1 (by decide) hlink rfl hdg kk
theorem pf_X7_1 (S : CallFix p m c cc nL s args Ts own) (hin : ∀ w ∈ wsX70, w ∈ Ts) (hK : pt_KK D (tysC ca) s) (hP : va_P D vwCl (wC ca ad σ) H) (hDa : ∀ σ, va_D A (wC ca ad σ)) (hS : va_S A H0 H locs) (hlink : (Cond.fieldLink own index "PackThreads$Text" "length" "I").before args s = true) (e1 : σ1 = (pt_put σ 1 1 v)) (hdg : decode cc pc = .ok (.putfield index, 3)) (kk : ∀ (H1 : Heap) (locs1 : List Loc), va_P D vwCl (wC ca ad σ1) H1 → va_S A H0 H1 locs1 → W p l e R s m args below meth c H1 locs1 cells slots Q (F0 m (pc + 3) ls rest)) : W p l e R s m args below meth c H locs cells slots Q (F0 m pc ls (.int v :: .ref (ad 1) :: rest)) := by
  subst e1
  exact pt_p S hin tyX7_ok nmX7 hK hP (hDa σ) hS 1 rfl rfl 1 (by decide) hlink rfl rfl rfl (Nat.le_of_ble_eq_true rfl) rfl hdg kk
theorem gf_X5_0 (S : CallFix p m c cc nL s args Ts own) (hin : ∀ w ∈ wsX50, w ∈ Ts) (hK : pt_KK D (tysC ca) s) (hP : va_P D vwCl (wC ca ad σ) H) (hlink : (Cond.fieldLink own index "PackThreads$Settings" "size" "I").before args s = true) (hdg : decode cc pc = .ok (.getfield index, 3)) (kk : W p l e R s m args below meth c H locs cells slots Q (F0 m (pc + 3) ls (.int (σ 2 0) :: rest))) : W p l e R s m args below meth c H locs cells slots Q (F0 m pc ls (.ref (ad 2) :: rest)) :=
  pt_g S hin hK hP 2 rfl rfl 0 (by decide) hlink rfl hdg kk
theorem pf_X5_0 (S : CallFix p m c cc nL s args Ts own) (hin : ∀ w ∈ wsX50, w ∈ Ts) (hK : pt_KK D (tysC ca) s) (hP : va_P D vwCl (wC ca ad σ) H) (hDa : ∀ σ, va_D A (wC ca ad σ)) (hS : va_S A H0 H locs) (hlink : (Cond.fieldLink own index "PackThreads$Settings" "size" "I").before args s = true) (e1 : σ1 = (pt_put σ 2 0 v)) (hdg : decode cc pc = .ok (.putfield index, 3)) (kk : ∀ (H1 : Heap) (locs1 : List Loc), va_P D vwCl (wC ca ad σ1) H1 → va_S A H0 H1 locs1 → W p l e R s m args below meth c H1 locs1 cells slots Q (F0 m (pc + 3) ls rest)) : W p l e R s m args below meth c H locs cells slots Q (F0 m pc ls (.int v :: .ref (ad 2) :: rest)) := by
  subst e1
  exact pt_p S hin tyX5_ok nmX5 hK hP (hDa σ) hS 2 rfl rfl 0 (by decide) hlink rfl rfl rfl (Nat.le_of_ble_eq_true rfl) rfl hdg kk
theorem gf_X5_1 (S : CallFix p m c cc nL s args Ts own) (hin : ∀ w ∈ wsX50, w ∈ Ts) (hK : pt_KK D (tysC ca) s) (hP : va_P D vwCl (wC ca ad σ) H) (hlink : (Cond.fieldLink own index "PackThreads$Settings" "window" "I").before args s = true) (hdg : decode cc pc = .ok (.getfield index, 3)) (kk : W p l e R s m args below meth c H locs cells slots Q (F0 m (pc + 3) ls (.int (σ 2 1) :: rest))) : W p l e R s m args below meth c H locs cells slots Q (F0 m pc ls (.ref (ad 2) :: rest)) :=
  pt_g S hin hK hP 2 rfl rfl 1 (by decide) hlink rfl hdg kk
theorem pf_X5_1 (S : CallFix p m c cc nL s args Ts own) (hin : ∀ w ∈ wsX50, w ∈ Ts) (hK : pt_KK D (tysC ca) s) (hP : va_P D vwCl (wC ca ad σ) H) (hDa : ∀ σ, va_D A (wC ca ad σ)) (hS : va_S A H0 H locs) (hlink : (Cond.fieldLink own index "PackThreads$Settings" "window" "I").before args s = true) (e1 : σ1 = (pt_put σ 2 1 v)) (hdg : decode cc pc = .ok (.putfield index, 3)) (kk : ∀ (H1 : Heap) (locs1 : List Loc), va_P D vwCl (wC ca ad σ1) H1 → va_S A H0 H1 locs1 → W p l e R s m args below meth c H1 locs1 cells slots Q (F0 m (pc + 3) ls rest)) : W p l e R s m args below meth c H locs cells slots Q (F0 m pc ls (.int v :: .ref (ad 2) :: rest)) := by
  subst e1
  exact pt_p S hin tyX5_ok nmX5 hK hP (hDa σ) hS 2 rfl rfl 1 (by decide) hlink rfl rfl rfl (Nat.le_of_ble_eq_true rfl) rfl hdg kk
theorem gf_X5_2 (S : CallFix p m c cc nL s args Ts own) (hin : ∀ w ∈ wsX50, w ∈ Ts) (hK : pt_KK D (tysC ca) s) (hP : va_P D vwCl (wC ca ad σ) H) (hlink : (Cond.fieldLink own index "PackThreads$Settings" "cells" "I").before args s = true) (hdg : decode cc pc = .ok (.getfield index, 3)) (kk : W p l e R s m args below meth c H locs cells slots Q (F0 m (pc + 3) ls (.int (σ 2 2) :: rest))) : W p l e R s m args below meth c H locs cells slots Q (F0 m pc ls (.ref (ad 2) :: rest)) :=
  pt_g S hin hK hP 2 rfl rfl 2 (by decide) hlink rfl hdg kk
theorem pf_X5_2 (S : CallFix p m c cc nL s args Ts own) (hin : ∀ w ∈ wsX50, w ∈ Ts) (hK : pt_KK D (tysC ca) s) (hP : va_P D vwCl (wC ca ad σ) H) (hDa : ∀ σ, va_D A (wC ca ad σ)) (hS : va_S A H0 H locs) (hlink : (Cond.fieldLink own index "PackThreads$Settings" "cells" "I").before args s = true) (e1 : σ1 = (pt_put σ 2 2 v)) (hdg : decode cc pc = .ok (.putfield index, 3)) (kk : ∀ (H1 : Heap) (locs1 : List Loc), va_P D vwCl (wC ca ad σ1) H1 → va_S A H0 H1 locs1 → W p l e R s m args below meth c H1 locs1 cells slots Q (F0 m (pc + 3) ls rest)) : W p l e R s m args below meth c H locs cells slots Q (F0 m pc ls (.int v :: .ref (ad 2) :: rest)) := by
  subst e1
  exact pt_p S hin tyX5_ok nmX5 hK hP (hDa σ) hS 2 rfl rfl 2 (by decide) hlink rfl rfl rfl (Nat.le_of_ble_eq_true rfl) rfl hdg kk
theorem gf_X5_3 (S : CallFix p m c cc nL s args Ts own) (hin : ∀ w ∈ wsX50, w ∈ Ts) (hK : pt_KK D (tysC ca) s) (hP : va_P D vwCl (wC ca ad σ) H) (hlink : (Cond.fieldLink own index "PackThreads$Settings" "rowLimit" "I").before args s = true) (hdg : decode cc pc = .ok (.getfield index, 3)) (kk : W p l e R s m args below meth c H locs cells slots Q (F0 m (pc + 3) ls (.int (σ 2 3) :: rest))) : W p l e R s m args below meth c H locs cells slots Q (F0 m pc ls (.ref (ad 2) :: rest)) :=
  pt_g S hin hK hP 2 rfl rfl 3 (by decide) hlink rfl hdg kk
theorem pf_X5_3 (S : CallFix p m c cc nL s args Ts own) (hin : ∀ w ∈ wsX50, w ∈ Ts) (hK : pt_KK D (tysC ca) s) (hP : va_P D vwCl (wC ca ad σ) H) (hDa : ∀ σ, va_D A (wC ca ad σ)) (hS : va_S A H0 H locs) (hlink : (Cond.fieldLink own index "PackThreads$Settings" "rowLimit" "I").before args s = true) (e1 : σ1 = (pt_put σ 2 3 v)) (hdg : decode cc pc = .ok (.putfield index, 3)) (kk : ∀ (H1 : Heap) (locs1 : List Loc), va_P D vwCl (wC ca ad σ1) H1 → va_S A H0 H1 locs1 → W p l e R s m args below meth c H1 locs1 cells slots Q (F0 m (pc + 3) ls rest)) : W p l e R s m args below meth c H locs cells slots Q (F0 m pc ls (.int v :: .ref (ad 2) :: rest)) := by
  subst e1
  exact pt_p S hin tyX5_ok nmX5 hK hP (hDa σ) hS 2 rfl rfl 3 (by decide) hlink rfl rfl rfl (Nat.le_of_ble_eq_true rfl) rfl hdg kk
theorem gf_X3_0 (S : CallFix p m c cc nL s args Ts own) (hin : ∀ w ∈ wsX30, w ∈ Ts) (hK : pt_KK D (tysC ca) s) (hP : va_P D vwCl (wC ca ad σ) H) (hlink : (Cond.fieldLink own index "PackThreads$Plants" "steps" "[I").before args s = true) (hdg : decode cc pc = .ok (.getfield index, 3)) (kk : W p l e R s m args below meth c H locs cells slots Q (F0 m (pc + 3) ls (.ref (ad 16) :: rest))) : W p l e R s m args below meth c H locs cells slots Q (F0 m pc ls (.ref (ad 3) :: rest)) :=
  pt_g S hin hK hP 3 rfl rfl 0 (by decide) hlink rfl hdg kk
theorem gf_X3_1 (S : CallFix p m c cc nL s args Ts own) (hin : ∀ w ∈ wsX30, w ∈ Ts) (hK : pt_KK D (tysC ca) s) (hP : va_P D vwCl (wC ca ad σ) H) (hlink : (Cond.fieldLink own index "PackThreads$Plants" "kinds" "[I").before args s = true) (hdg : decode cc pc = .ok (.getfield index, 3)) (kk : W p l e R s m args below meth c H locs cells slots Q (F0 m (pc + 3) ls (.ref (ad 17) :: rest))) : W p l e R s m args below meth c H locs cells slots Q (F0 m pc ls (.ref (ad 3) :: rest)) :=
  pt_g S hin hK hP 3 rfl rfl 1 (by decide) hlink rfl hdg kk
theorem gf_X3_2 (S : CallFix p m c cc nL s args Ts own) (hin : ∀ w ∈ wsX30, w ∈ Ts) (hK : pt_KK D (tysC ca) s) (hP : va_P D vwCl (wC ca ad σ) H) (hlink : (Cond.fieldLink own index "PackThreads$Plants" "forTwice" "[Z").before args s = true) (hdg : decode cc pc = .ok (.getfield index, 3)) (kk : W p l e R s m args below meth c H locs cells slots Q (F0 m (pc + 3) ls (.ref (ad 18) :: rest))) : W p l e R s m args below meth c H locs cells slots Q (F0 m pc ls (.ref (ad 3) :: rest)) :=
  pt_g S hin hK hP 3 rfl rfl 2 (by decide) hlink rfl hdg kk
theorem gf_X2_0 (S : CallFix p m c cc nL s args Ts own) (hin : ∀ w ∈ wsX20, w ∈ Ts) (hK : pt_KK D (tysC ca) s) (hP : va_P D vwCl (wC ca ad σ) H) (hlink : (Cond.fieldLink own index "PackThreads$Packs" "text" "LPackThreads$Text;").before args s = true) (hdg : decode cc pc = .ok (.getfield index, 3)) (kk : W p l e R s m args below meth c H locs cells slots Q (F0 m (pc + 3) ls (.ref (ad 1) :: rest))) : W p l e R s m args below meth c H locs cells slots Q (F0 m pc ls (.ref (ad 4) :: rest)) :=
  pt_g S hin hK hP 4 rfl rfl 0 (by decide) hlink rfl hdg kk
theorem gf_X2_1 (S : CallFix p m c cc nL s args Ts own) (hin : ∀ w ∈ wsX20, w ∈ Ts) (hK : pt_KK D (tysC ca) s) (hP : va_P D vwCl (wC ca ad σ) H) (hlink : (Cond.fieldLink own index "PackThreads$Packs" "settings" "LPackThreads$Settings;").before args s = true) (hdg : decode cc pc = .ok (.getfield index, 3)) (kk : W p l e R s m args below meth c H locs cells slots Q (F0 m (pc + 3) ls (.ref (ad 2) :: rest))) : W p l e R s m args below meth c H locs cells slots Q (F0 m pc ls (.ref (ad 4) :: rest)) :=
  pt_g S hin hK hP 4 rfl rfl 1 (by decide) hlink rfl hdg kk
theorem gf_X2_2 (S : CallFix p m c cc nL s args Ts own) (hin : ∀ w ∈ wsX20, w ∈ Ts) (hK : pt_KK D (tysC ca) s) (hP : va_P D vwCl (wC ca ad σ) H) (hlink : (Cond.fieldLink own index "PackThreads$Packs" "bytes" "[I").before args s = true) (hdg : decode cc pc = .ok (.getfield index, 3)) (kk : W p l e R s m args below meth c H locs cells slots Q (F0 m (pc + 3) ls (.ref (ad 19) :: rest))) : W p l e R s m args below meth c H locs cells slots Q (F0 m pc ls (.ref (ad 4) :: rest)) :=
  pt_g S hin hK hP 4 rfl rfl 2 (by decide) hlink rfl hdg kk
theorem gf_X2_3 (S : CallFix p m c cc nL s args Ts own) (hin : ∀ w ∈ wsX20, w ∈ Ts) (hK : pt_KK D (tysC ca) s) (hP : va_P D vwCl (wC ca ad σ) H) (hlink : (Cond.fieldLink own index "PackThreads$Packs" "ends" "[I").before args s = true) (hdg : decode cc pc = .ok (.getfield index, 3)) (kk : W p l e R s m args below meth c H locs cells slots Q (F0 m (pc + 3) ls (.ref (ad 20) :: rest))) : W p l e R s m args below meth c H locs cells slots Q (F0 m pc ls (.ref (ad 4) :: rest)) :=
  pt_g S hin hK hP 4 rfl rfl 3 (by decide) hlink rfl hdg kk
theorem gf_X2_4 (S : CallFix p m c cc nL s args Ts own) (hin : ∀ w ∈ wsX20, w ∈ Ts) (hK : pt_KK D (tysC ca) s) (hP : va_P D vwCl (wC ca ad σ) H) (hlink : (Cond.fieldLink own index "PackThreads$Packs" "tokens" "[I").before args s = true) (hdg : decode cc pc = .ok (.getfield index, 3)) (kk : W p l e R s m args below meth c H locs cells slots Q (F0 m (pc + 3) ls (.ref (ad 21) :: rest))) : W p l e R s m args below meth c H locs cells slots Q (F0 m pc ls (.ref (ad 4) :: rest)) :=
  pt_g S hin hK hP 4 rfl rfl 4 (by decide) hlink rfl hdg kk
theorem gf_X2_5 (S : CallFix p m c cc nL s args Ts own) (hin : ∀ w ∈ wsX20, w ∈ Ts) (hK : pt_KK D (tysC ca) s) (hP : va_P D vwCl (wC ca ad σ) H) (hlink : (Cond.fieldLink own index "PackThreads$Packs" "count" "I").before args s = true) (hdg : decode cc pc = .ok (.getfield index, 3)) (kk : W p l e R s m args below meth c H locs cells slots Q (F0 m (pc + 3) ls (.int (σ 4 5) :: rest))) : W p l e R s m args below meth c H locs cells slots Q (F0 m pc ls (.ref (ad 4) :: rest)) :=
  pt_g S hin hK hP 4 rfl rfl 5 (by decide) hlink rfl hdg kk
theorem pf_X2_5 (S : CallFix p m c cc nL s args Ts own) (hin : ∀ w ∈ wsX20, w ∈ Ts) (hK : pt_KK D (tysC ca) s) (hP : va_P D vwCl (wC ca ad σ) H) (hDa : ∀ σ, va_D A (wC ca ad σ)) (hS : va_S A H0 H locs) (hlink : (Cond.fieldLink own index "PackThreads$Packs" "count" "I").before args s = true) (e1 : σ1 = (pt_put σ 4 5 v)) (hdg : decode cc pc = .ok (.putfield index, 3)) (kk : ∀ (H1 : Heap) (locs1 : List Loc), va_P D vwCl (wC ca ad σ1) H1 → va_S A H0 H1 locs1 → W p l e R s m args below meth c H1 locs1 cells slots Q (F0 m (pc + 3) ls rest)) : W p l e R s m args below meth c H locs cells slots Q (F0 m pc ls (.int v :: .ref (ad 4) :: rest)) := by
  subst e1
  exact pt_p S hin tyX2_ok nmX2 hK hP (hDa σ) hS 4 rfl rfl 5 (by decide) hlink rfl rfl rfl (Nat.le_of_ble_eq_true rfl) rfl hdg kk
theorem gf_X2_6 (S : CallFix p m c cc nL s args Ts own) (hin : ∀ w ∈ wsX20, w ∈ Ts) (hK : pt_KK D (tysC ca) s) (hP : va_P D vwCl (wC ca ad σ) H) (hlink : (Cond.fieldLink own index "PackThreads$Packs" "blocks" "I").before args s = true) (hdg : decode cc pc = .ok (.getfield index, 3)) (kk : W p l e R s m args below meth c H locs cells slots Q (F0 m (pc + 3) ls (.int (σ 4 6) :: rest))) : W p l e R s m args below meth c H locs cells slots Q (F0 m pc ls (.ref (ad 4) :: rest)) :=
  pt_g S hin hK hP 4 rfl rfl 6 (by decide) hlink rfl hdg kk
theorem pf_X2_6 (S : CallFix p m c cc nL s args Ts own) (hin : ∀ w ∈ wsX20, w ∈ Ts) (hK : pt_KK D (tysC ca) s) (hP : va_P D vwCl (wC ca ad σ) H) (hDa : ∀ σ, va_D A (wC ca ad σ)) (hS : va_S A H0 H locs) (hlink : (Cond.fieldLink own index "PackThreads$Packs" "blocks" "I").before args s = true) (e1 : σ1 = (pt_put σ 4 6 v)) (hdg : decode cc pc = .ok (.putfield index, 3)) (kk : ∀ (H1 : Heap) (locs1 : List Loc), va_P D vwCl (wC ca ad σ1) H1 → va_S A H0 H1 locs1 → W p l e R s m args below meth c H1 locs1 cells slots Q (F0 m (pc + 3) ls rest)) : W p l e R s m args below meth c H locs cells slots Q (F0 m pc ls (.int v :: .ref (ad 4) :: rest)) := by
  subst e1
  exact pt_p S hin tyX2_ok nmX2 hK hP (hDa σ) hS 4 rfl rfl 6 (by decide) hlink rfl rfl rfl (Nat.le_of_ble_eq_true rfl) rfl hdg kk
theorem gf_X2_7 (S : CallFix p m c cc nL s args Ts own) (hin : ∀ w ∈ wsX20, w ∈ Ts) (hK : pt_KK D (tysC ca) s) (hP : va_P D vwCl (wC ca ad σ) H) (hlink : (Cond.fieldLink own index "PackThreads$Packs" "runAt" "I").before args s = true) (hdg : decode cc pc = .ok (.getfield index, 3)) (kk : W p l e R s m args below meth c H locs cells slots Q (F0 m (pc + 3) ls (.int (σ 4 7) :: rest))) : W p l e R s m args below meth c H locs cells slots Q (F0 m pc ls (.ref (ad 4) :: rest)) :=
  pt_g S hin hK hP 4 rfl rfl 7 (by decide) hlink rfl hdg kk
theorem pf_X2_7 (S : CallFix p m c cc nL s args Ts own) (hin : ∀ w ∈ wsX20, w ∈ Ts) (hK : pt_KK D (tysC ca) s) (hP : va_P D vwCl (wC ca ad σ) H) (hDa : ∀ σ, va_D A (wC ca ad σ)) (hS : va_S A H0 H locs) (hlink : (Cond.fieldLink own index "PackThreads$Packs" "runAt" "I").before args s = true) (e1 : σ1 = (pt_put σ 4 7 v)) (hdg : decode cc pc = .ok (.putfield index, 3)) (kk : ∀ (H1 : Heap) (locs1 : List Loc), va_P D vwCl (wC ca ad σ1) H1 → va_S A H0 H1 locs1 → W p l e R s m args below meth c H1 locs1 cells slots Q (F0 m (pc + 3) ls rest)) : W p l e R s m args below meth c H locs cells slots Q (F0 m pc ls (.int v :: .ref (ad 4) :: rest)) := by
  subst e1
  exact pt_p S hin tyX2_ok nmX2 hK hP (hDa σ) hS 4 rfl rfl 7 (by decide) hlink rfl rfl rfl (Nat.le_of_ble_eq_true rfl) rfl hdg kk
theorem gf_X2_8 (S : CallFix p m c cc nL s args Ts own) (hin : ∀ w ∈ wsX20, w ∈ Ts) (hK : pt_KK D (tysC ca) s) (hP : va_P D vwCl (wC ca ad σ) H) (hlink : (Cond.fieldLink own index "PackThreads$Packs" "made" "Z").before args s = true) (hdg : decode cc pc = .ok (.getfield index, 3)) (kk : W p l e R s m args below meth c H locs cells slots Q (F0 m (pc + 3) ls (.int (σ 4 8) :: rest))) : W p l e R s m args below meth c H locs cells slots Q (F0 m pc ls (.ref (ad 4) :: rest)) :=
  pt_g S hin hK hP 4 rfl rfl 8 (by decide) hlink rfl hdg kk
theorem pf_X2_8 (S : CallFix p m c cc nL s args Ts own) (hin : ∀ w ∈ wsX20, w ∈ Ts) (hK : pt_KK D (tysC ca) s) (hP : va_P D vwCl (wC ca ad σ) H) (hDa : ∀ σ, va_D A (wC ca ad σ)) (hS : va_S A H0 H locs) (hlink : (Cond.fieldLink own index "PackThreads$Packs" "made" "Z").before args s = true) (hz : v = 0 ∨ v = 1) (e1 : σ1 = (pt_put σ 4 8 v)) (hdg : decode cc pc = .ok (.putfield index, 3)) (kk : ∀ (H1 : Heap) (locs1 : List Loc), va_P D vwCl (wC ca ad σ1) H1 → va_S A H0 H1 locs1 → W p l e R s m args below meth c H1 locs1 cells slots Q (F0 m (pc + 3) ls rest)) : W p l e R s m args below meth c H locs cells slots Q (F0 m pc ls (.int v :: .ref (ad 4) :: rest)) := by
  subst e1
  exact pt_p S hin tyX2_ok nmX2 hK hP (hDa σ) hS 4 rfl rfl 8 (by decide) hlink rfl (by rcases hz with rfl | rfl <;> rfl) (by rcases hz with rfl | rfl <;> rfl) (Nat.le_of_ble_eq_true rfl) rfl hdg kk
theorem gf_X6_0 (S : CallFix p m c cc nL s args Ts own) (hin : ∀ w ∈ wsX60, w ∈ Ts) (hK : pt_KK D (tysC ca) s) (hP : va_P D vwCl (wC ca ad σ) H) (hlink : (Cond.fieldLink own index "PackThreads$Stream" "packs" "LPackThreads$Packs;").before args s = true) (hdg : decode cc pc = .ok (.getfield index, 3)) (kk : W p l e R s m args below meth c H locs cells slots Q (F0 m (pc + 3) ls (.ref (ad 4) :: rest))) : W p l e R s m args below meth c H locs cells slots Q (F0 m pc ls (.ref (ad 5) :: rest)) :=
  pt_g S hin hK hP 5 rfl rfl 0 (by decide) hlink rfl hdg kk
theorem gf_X6_1 (S : CallFix p m c cc nL s args Ts own) (hin : ∀ w ∈ wsX60, w ∈ Ts) (hK : pt_KK D (tysC ca) s) (hP : va_P D vwCl (wC ca ad σ) H) (hlink : (Cond.fieldLink own index "PackThreads$Stream" "plants" "LPackThreads$Plants;").before args s = true) (hdg : decode cc pc = .ok (.getfield index, 3)) (kk : W p l e R s m args below meth c H locs cells slots Q (F0 m (pc + 3) ls (.ref (ad 3) :: rest))) : W p l e R s m args below meth c H locs cells slots Q (F0 m pc ls (.ref (ad 5) :: rest)) :=
  pt_g S hin hK hP 5 rfl rfl 1 (by decide) hlink rfl hdg kk
theorem gf_X6_2 (S : CallFix p m c cc nL s args Ts own) (hin : ∀ w ∈ wsX60, w ∈ Ts) (hK : pt_KK D (tysC ca) s) (hP : va_P D vwCl (wC ca ad σ) H) (hlink : (Cond.fieldLink own index "PackThreads$Stream" "workers" "[LPackThreads$Worker;").before args s = true) (hdg : decode cc pc = .ok (.getfield index, 3)) (kk : W p l e R s m args below meth c H locs cells slots Q (F0 m (pc + 3) ls (.ref (ad 22) :: rest))) : W p l e R s m args below meth c H locs cells slots Q (F0 m pc ls (.ref (ad 5) :: rest)) :=
  pt_g S hin hK hP 5 rfl rfl 2 (by decide) hlink rfl hdg kk
theorem gf_X6_3 (S : CallFix p m c cc nL s args Ts own) (hin : ∀ w ∈ wsX60, w ∈ Ts) (hK : pt_KK D (tysC ca) s) (hP : va_P D vwCl (wC ca ad σ) H) (hlink : (Cond.fieldLink own index "PackThreads$Stream" "memory" "LPackThreads$Memory;").before args s = true) (hdg : decode cc pc = .ok (.getfield index, 3)) (kk : W p l e R s m args below meth c H locs cells slots Q (F0 m (pc + 3) ls (.ref (ad 6) :: rest))) : W p l e R s m args below meth c H locs cells slots Q (F0 m pc ls (.ref (ad 5) :: rest)) :=
  pt_g S hin hK hP 5 rfl rfl 3 (by decide) hlink rfl hdg kk
theorem gf_X6_4 (S : CallFix p m c cc nL s args Ts own) (hin : ∀ w ∈ wsX60, w ∈ Ts) (hK : pt_KK D (tysC ca) s) (hP : va_P D vwCl (wC ca ad σ) H) (hlink : (Cond.fieldLink own index "PackThreads$Stream" "row" "LPackThreads$Row;").before args s = true) (hdg : decode cc pc = .ok (.getfield index, 3)) (kk : W p l e R s m args below meth c H locs cells slots Q (F0 m (pc + 3) ls (.ref (ad 7) :: rest))) : W p l e R s m args below meth c H locs cells slots Q (F0 m pc ls (.ref (ad 5) :: rest)) :=
  pt_g S hin hK hP 5 rfl rfl 4 (by decide) hlink rfl hdg kk
theorem gf_X6_5 (S : CallFix p m c cc nL s args Ts own) (hin : ∀ w ∈ wsX60, w ∈ Ts) (hK : pt_KK D (tysC ca) s) (hP : va_P D vwCl (wC ca ad σ) H) (hlink : (Cond.fieldLink own index "PackThreads$Stream" "failed" "LPackThreads$Failed;").before args s = true) (hdg : decode cc pc = .ok (.getfield index, 3)) (kk : W p l e R s m args below meth c H locs cells slots Q (F0 m (pc + 3) ls (.ref (ad 8) :: rest))) : W p l e R s m args below meth c H locs cells slots Q (F0 m pc ls (.ref (ad 5) :: rest)) :=
  pt_g S hin hK hP 5 rfl rfl 5 (by decide) hlink rfl hdg kk
theorem gf_X6_6 (S : CallFix p m c cc nL s args Ts own) (hin : ∀ w ∈ wsX60, w ∈ Ts) (hK : pt_KK D (tysC ca) s) (hP : va_P D vwCl (wC ca ad σ) H) (hlink : (Cond.fieldLink own index "PackThreads$Stream" "threads" "I").before args s = true) (hdg : decode cc pc = .ok (.getfield index, 3)) (kk : W p l e R s m args below meth c H locs cells slots Q (F0 m (pc + 3) ls (.int (σ 5 6) :: rest))) : W p l e R s m args below meth c H locs cells slots Q (F0 m pc ls (.ref (ad 5) :: rest)) :=
  pt_g S hin hK hP 5 rfl rfl 6 (by decide) hlink rfl hdg kk
theorem pf_X6_6 (S : CallFix p m c cc nL s args Ts own) (hin : ∀ w ∈ wsX60, w ∈ Ts) (hK : pt_KK D (tysC ca) s) (hP : va_P D vwCl (wC ca ad σ) H) (hDa : ∀ σ, va_D A (wC ca ad σ)) (hS : va_S A H0 H locs) (hlink : (Cond.fieldLink own index "PackThreads$Stream" "threads" "I").before args s = true) (e1 : σ1 = (pt_put σ 5 6 v)) (hdg : decode cc pc = .ok (.putfield index, 3)) (kk : ∀ (H1 : Heap) (locs1 : List Loc), va_P D vwCl (wC ca ad σ1) H1 → va_S A H0 H1 locs1 → W p l e R s m args below meth c H1 locs1 cells slots Q (F0 m (pc + 3) ls rest)) : W p l e R s m args below meth c H locs cells slots Q (F0 m pc ls (.int v :: .ref (ad 5) :: rest)) := by
  subst e1
  exact pt_p S hin tyX6_ok nmX6 hK hP (hDa σ) hS 5 rfl rfl 6 (by decide) hlink rfl rfl rfl (Nat.le_of_ble_eq_true rfl) rfl hdg kk
theorem gf_X6_7 (S : CallFix p m c cc nL s args Ts own) (hin : ∀ w ∈ wsX60, w ∈ Ts) (hK : pt_KK D (tysC ca) s) (hP : va_P D vwCl (wC ca ad σ) H) (hlink : (Cond.fieldLink own index "PackThreads$Stream" "latest" "I").before args s = true) (hdg : decode cc pc = .ok (.getfield index, 3)) (kk : W p l e R s m args below meth c H locs cells slots Q (F0 m (pc + 3) ls (.int (σ 5 7) :: rest))) : W p l e R s m args below meth c H locs cells slots Q (F0 m pc ls (.ref (ad 5) :: rest)) :=
  pt_g S hin hK hP 5 rfl rfl 7 (by decide) hlink rfl hdg kk
theorem pf_X6_7 (S : CallFix p m c cc nL s args Ts own) (hin : ∀ w ∈ wsX60, w ∈ Ts) (hK : pt_KK D (tysC ca) s) (hP : va_P D vwCl (wC ca ad σ) H) (hDa : ∀ σ, va_D A (wC ca ad σ)) (hS : va_S A H0 H locs) (hlink : (Cond.fieldLink own index "PackThreads$Stream" "latest" "I").before args s = true) (e1 : σ1 = (pt_put σ 5 7 v)) (hdg : decode cc pc = .ok (.putfield index, 3)) (kk : ∀ (H1 : Heap) (locs1 : List Loc), va_P D vwCl (wC ca ad σ1) H1 → va_S A H0 H1 locs1 → W p l e R s m args below meth c H1 locs1 cells slots Q (F0 m (pc + 3) ls rest)) : W p l e R s m args below meth c H locs cells slots Q (F0 m pc ls (.int v :: .ref (ad 5) :: rest)) := by
  subst e1
  exact pt_p S hin tyX6_ok nmX6 hK hP (hDa σ) hS 5 rfl rfl 7 (by decide) hlink rfl rfl rfl (Nat.le_of_ble_eq_true rfl) rfl hdg kk
theorem gf_X6_8 (S : CallFix p m c cc nL s args Ts own) (hin : ∀ w ∈ wsX60, w ∈ Ts) (hK : pt_KK D (tysC ca) s) (hP : va_P D vwCl (wC ca ad σ) H) (hlink : (Cond.fieldLink own index "PackThreads$Stream" "nextBlock" "I").before args s = true) (hdg : decode cc pc = .ok (.getfield index, 3)) (kk : W p l e R s m args below meth c H locs cells slots Q (F0 m (pc + 3) ls (.int (σ 5 8) :: rest))) : W p l e R s m args below meth c H locs cells slots Q (F0 m pc ls (.ref (ad 5) :: rest)) :=
  pt_g S hin hK hP 5 rfl rfl 8 (by decide) hlink rfl hdg kk
theorem pf_X6_8 (S : CallFix p m c cc nL s args Ts own) (hin : ∀ w ∈ wsX60, w ∈ Ts) (hK : pt_KK D (tysC ca) s) (hP : va_P D vwCl (wC ca ad σ) H) (hDa : ∀ σ, va_D A (wC ca ad σ)) (hS : va_S A H0 H locs) (hlink : (Cond.fieldLink own index "PackThreads$Stream" "nextBlock" "I").before args s = true) (e1 : σ1 = (pt_put σ 5 8 v)) (hdg : decode cc pc = .ok (.putfield index, 3)) (kk : ∀ (H1 : Heap) (locs1 : List Loc), va_P D vwCl (wC ca ad σ1) H1 → va_S A H0 H1 locs1 → W p l e R s m args below meth c H1 locs1 cells slots Q (F0 m (pc + 3) ls rest)) : W p l e R s m args below meth c H locs cells slots Q (F0 m pc ls (.int v :: .ref (ad 5) :: rest)) := by
  subst e1
  exact pt_p S hin tyX6_ok nmX6 hK hP (hDa σ) hS 5 rfl rfl 8 (by decide) hlink rfl rfl rfl (Nat.le_of_ble_eq_true rfl) rfl hdg kk
theorem gf_X6_9 (S : CallFix p m c cc nL s args Ts own) (hin : ∀ w ∈ wsX60, w ∈ Ts) (hK : pt_KK D (tysC ca) s) (hP : va_P D vwCl (wC ca ad σ) H) (hlink : (Cond.fieldLink own index "PackThreads$Stream" "stoppedAt" "I").before args s = true) (hdg : decode cc pc = .ok (.getfield index, 3)) (kk : W p l e R s m args below meth c H locs cells slots Q (F0 m (pc + 3) ls (.int (σ 5 9) :: rest))) : W p l e R s m args below meth c H locs cells slots Q (F0 m pc ls (.ref (ad 5) :: rest)) :=
  pt_g S hin hK hP 5 rfl rfl 9 (by decide) hlink rfl hdg kk
theorem pf_X6_9 (S : CallFix p m c cc nL s args Ts own) (hin : ∀ w ∈ wsX60, w ∈ Ts) (hK : pt_KK D (tysC ca) s) (hP : va_P D vwCl (wC ca ad σ) H) (hDa : ∀ σ, va_D A (wC ca ad σ)) (hS : va_S A H0 H locs) (hlink : (Cond.fieldLink own index "PackThreads$Stream" "stoppedAt" "I").before args s = true) (e1 : σ1 = (pt_put σ 5 9 v)) (hdg : decode cc pc = .ok (.putfield index, 3)) (kk : ∀ (H1 : Heap) (locs1 : List Loc), va_P D vwCl (wC ca ad σ1) H1 → va_S A H0 H1 locs1 → W p l e R s m args below meth c H1 locs1 cells slots Q (F0 m (pc + 3) ls rest)) : W p l e R s m args below meth c H locs cells slots Q (F0 m pc ls (.int v :: .ref (ad 5) :: rest)) := by
  subst e1
  exact pt_p S hin tyX6_ok nmX6 hK hP (hDa σ) hS 5 rfl rfl 9 (by decide) hlink rfl rfl rfl (Nat.le_of_ble_eq_true rfl) rfl hdg kk
theorem gf_X6_10 (S : CallFix p m c cc nL s args Ts own) (hin : ∀ w ∈ wsX60, w ∈ Ts) (hK : pt_KK D (tysC ca) s) (hP : va_P D vwCl (wC ca ad σ) H) (hlink : (Cond.fieldLink own index "PackThreads$Stream" "stoppedKind" "I").before args s = true) (hdg : decode cc pc = .ok (.getfield index, 3)) (kk : W p l e R s m args below meth c H locs cells slots Q (F0 m (pc + 3) ls (.int (σ 5 10) :: rest))) : W p l e R s m args below meth c H locs cells slots Q (F0 m pc ls (.ref (ad 5) :: rest)) :=
  pt_g S hin hK hP 5 rfl rfl 10 (by decide) hlink rfl hdg kk
theorem pf_X6_10 (S : CallFix p m c cc nL s args Ts own) (hin : ∀ w ∈ wsX60, w ∈ Ts) (hK : pt_KK D (tysC ca) s) (hP : va_P D vwCl (wC ca ad σ) H) (hDa : ∀ σ, va_D A (wC ca ad σ)) (hS : va_S A H0 H locs) (hlink : (Cond.fieldLink own index "PackThreads$Stream" "stoppedKind" "I").before args s = true) (e1 : σ1 = (pt_put σ 5 10 v)) (hdg : decode cc pc = .ok (.putfield index, 3)) (kk : ∀ (H1 : Heap) (locs1 : List Loc), va_P D vwCl (wC ca ad σ1) H1 → va_S A H0 H1 locs1 → W p l e R s m args below meth c H1 locs1 cells slots Q (F0 m (pc + 3) ls rest)) : W p l e R s m args below meth c H locs cells slots Q (F0 m pc ls (.int v :: .ref (ad 5) :: rest)) := by
  subst e1
  exact pt_p S hin tyX6_ok nmX6 hK hP (hDa σ) hS 5 rfl rfl 10 (by decide) hlink rfl rfl rfl (Nat.le_of_ble_eq_true rfl) rfl hdg kk
theorem gf_X6_11 (S : CallFix p m c cc nL s args Ts own) (hin : ∀ w ∈ wsX60, w ∈ Ts) (hK : pt_KK D (tysC ca) s) (hP : va_P D vwCl (wC ca ad σ) H) (hlink : (Cond.fieldLink own index "PackThreads$Stream" "failures" "I").before args s = true) (hdg : decode cc pc = .ok (.getfield index, 3)) (kk : W p l e R s m args below meth c H locs cells slots Q (F0 m (pc + 3) ls (.int (σ 5 11) :: rest))) : W p l e R s m args below meth c H locs cells slots Q (F0 m pc ls (.ref (ad 5) :: rest)) :=
  pt_g S hin hK hP 5 rfl rfl 11 (by decide) hlink rfl hdg kk
theorem pf_X6_11 (S : CallFix p m c cc nL s args Ts own) (hin : ∀ w ∈ wsX60, w ∈ Ts) (hK : pt_KK D (tysC ca) s) (hP : va_P D vwCl (wC ca ad σ) H) (hDa : ∀ σ, va_D A (wC ca ad σ)) (hS : va_S A H0 H locs) (hlink : (Cond.fieldLink own index "PackThreads$Stream" "failures" "I").before args s = true) (e1 : σ1 = (pt_put σ 5 11 v)) (hdg : decode cc pc = .ok (.putfield index, 3)) (kk : ∀ (H1 : Heap) (locs1 : List Loc), va_P D vwCl (wC ca ad σ1) H1 → va_S A H0 H1 locs1 → W p l e R s m args below meth c H1 locs1 cells slots Q (F0 m (pc + 3) ls rest)) : W p l e R s m args below meth c H locs cells slots Q (F0 m pc ls (.int v :: .ref (ad 5) :: rest)) := by
  subst e1
  exact pt_p S hin tyX6_ok nmX6 hK hP (hDa σ) hS 5 rfl rfl 11 (by decide) hlink rfl rfl rfl (Nat.le_of_ble_eq_true rfl) rfl hdg kk
theorem gf_X6_12 (S : CallFix p m c cc nL s args Ts own) (hin : ∀ w ∈ wsX60, w ∈ Ts) (hK : pt_KK D (tysC ca) s) (hP : va_P D vwCl (wC ca ad σ) H) (hlink : (Cond.fieldLink own index "PackThreads$Stream" "turnsDone" "I").before args s = true) (hdg : decode cc pc = .ok (.getfield index, 3)) (kk : W p l e R s m args below meth c H locs cells slots Q (F0 m (pc + 3) ls (.int (σ 5 12) :: rest))) : W p l e R s m args below meth c H locs cells slots Q (F0 m pc ls (.ref (ad 5) :: rest)) :=
  pt_g S hin hK hP 5 rfl rfl 12 (by decide) hlink rfl hdg kk
theorem pf_X6_12 (S : CallFix p m c cc nL s args Ts own) (hin : ∀ w ∈ wsX60, w ∈ Ts) (hK : pt_KK D (tysC ca) s) (hP : va_P D vwCl (wC ca ad σ) H) (hDa : ∀ σ, va_D A (wC ca ad σ)) (hS : va_S A H0 H locs) (hlink : (Cond.fieldLink own index "PackThreads$Stream" "turnsDone" "I").before args s = true) (e1 : σ1 = (pt_put σ 5 12 v)) (hdg : decode cc pc = .ok (.putfield index, 3)) (kk : ∀ (H1 : Heap) (locs1 : List Loc), va_P D vwCl (wC ca ad σ1) H1 → va_S A H0 H1 locs1 → W p l e R s m args below meth c H1 locs1 cells slots Q (F0 m (pc + 3) ls rest)) : W p l e R s m args below meth c H locs cells slots Q (F0 m pc ls (.int v :: .ref (ad 5) :: rest)) := by
  subst e1
  exact pt_p S hin tyX6_ok nmX6 hK hP (hDa σ) hS 5 rfl rfl 12 (by decide) hlink rfl rfl rfl (Nat.le_of_ble_eq_true rfl) rfl hdg kk
theorem gf_X1_0 (S : CallFix p m c cc nL s args Ts own) (hin : ∀ w ∈ wsX10, w ∈ Ts) (hK : pt_KK D (tysC ca) s) (hP : va_P D vwCl (wC ca ad σ) H) (hlink : (Cond.fieldLink own index "PackThreads$Memory" "line" "[LPackThreads$Worker;").before args s = true) (hdg : decode cc pc = .ok (.getfield index, 3)) (kk : W p l e R s m args below meth c H locs cells slots Q (F0 m (pc + 3) ls (.ref (ad 23) :: rest))) : W p l e R s m args below meth c H locs cells slots Q (F0 m pc ls (.ref (ad 6) :: rest)) :=
  pt_g S hin hK hP 6 rfl rfl 0 (by decide) hlink rfl hdg kk
theorem gf_X1_1 (S : CallFix p m c cc nL s args Ts own) (hin : ∀ w ∈ wsX10, w ∈ Ts) (hK : pt_KK D (tysC ca) s) (hP : va_P D vwCl (wC ca ad σ) H) (hlink : (Cond.fieldLink own index "PackThreads$Memory" "inLine" "I").before args s = true) (hdg : decode cc pc = .ok (.getfield index, 3)) (kk : W p l e R s m args below meth c H locs cells slots Q (F0 m (pc + 3) ls (.int (σ 6 1) :: rest))) : W p l e R s m args below meth c H locs cells slots Q (F0 m pc ls (.ref (ad 6) :: rest)) :=
  pt_g S hin hK hP 6 rfl rfl 1 (by decide) hlink rfl hdg kk
theorem pf_X1_1 (S : CallFix p m c cc nL s args Ts own) (hin : ∀ w ∈ wsX10, w ∈ Ts) (hK : pt_KK D (tysC ca) s) (hP : va_P D vwCl (wC ca ad σ) H) (hDa : ∀ σ, va_D A (wC ca ad σ)) (hS : va_S A H0 H locs) (hlink : (Cond.fieldLink own index "PackThreads$Memory" "inLine" "I").before args s = true) (e1 : σ1 = (pt_put σ 6 1 v)) (hdg : decode cc pc = .ok (.putfield index, 3)) (kk : ∀ (H1 : Heap) (locs1 : List Loc), va_P D vwCl (wC ca ad σ1) H1 → va_S A H0 H1 locs1 → W p l e R s m args below meth c H1 locs1 cells slots Q (F0 m (pc + 3) ls rest)) : W p l e R s m args below meth c H locs cells slots Q (F0 m pc ls (.int v :: .ref (ad 6) :: rest)) := by
  subst e1
  exact pt_p S hin tyX1_ok nmX1 hK hP (hDa σ) hS 6 rfl rfl 1 (by decide) hlink rfl rfl rfl (Nat.le_of_ble_eq_true rfl) rfl hdg kk
theorem gfN_X1_1 (S : CallFix p m c cc nL s args Ts own) (hin : ∀ w ∈ wsX10, w ∈ Ts) (hK : pt_KK D (tysC ca) s) (hP : va_P D vwCl (wC ca ad σ) H) (hlink : (own, index, "PackThreads$Memory", "inLine", "I", "PackThreads") ∈ pt_nf) (hdg : decode cc pc = .ok (.getfield index, 3)) (kk : W p l e R s m args below meth c H locs cells slots Q (F0 m (pc + 3) ls (.int (σ 6 1) :: rest))) : W p l e R s m args below meth c H locs cells slots Q (F0 m pc ls (.ref (ad 6) :: rest)) :=
  pt_gN S hin hK hP 6 rfl rfl 1 (by decide) hlink rfl hdg kk
theorem pfN_X1_1 (S : CallFix p m c cc nL s args Ts own) (hin : ∀ w ∈ wsX10, w ∈ Ts) (hK : pt_KK D (tysC ca) s) (hP : va_P D vwCl (wC ca ad σ) H) (hDa : ∀ σ, va_D A (wC ca ad σ)) (hS : va_S A H0 H locs) (hlink : (own, index, "PackThreads$Memory", "inLine", "I", "PackThreads") ∈ pt_nf) (e1 : σ1 = (pt_put σ 6 1 v)) (hdg : decode cc pc = .ok (.putfield index, 3)) (kk : ∀ (H1 : Heap) (locs1 : List Loc), va_P D vwCl (wC ca ad σ1) H1 → va_S A H0 H1 locs1 → W p l e R s m args below meth c H1 locs1 cells slots Q (F0 m (pc + 3) ls rest)) : W p l e R s m args below meth c H locs cells slots Q (F0 m pc ls (.int v :: .ref (ad 6) :: rest)) := by
  subst e1
  exact pt_pN S hin tyX1_ok nmX1 hK hP (hDa σ) hS 6 rfl rfl 1 (by decide) hlink rfl rfl rfl (Nat.le_of_ble_eq_true rfl) rfl hdg kk
theorem gf_X1_2 (S : CallFix p m c cc nL s args Ts own) (hin : ∀ w ∈ wsX10, w ∈ Ts) (hK : pt_KK D (tysC ca) s) (hP : va_P D vwCl (wC ca ad σ) H) (hlink : (Cond.fieldLink own index "PackThreads$Memory" "left" "I").before args s = true) (hdg : decode cc pc = .ok (.getfield index, 3)) (kk : W p l e R s m args below meth c H locs cells slots Q (F0 m (pc + 3) ls (.int (σ 6 2) :: rest))) : W p l e R s m args below meth c H locs cells slots Q (F0 m pc ls (.ref (ad 6) :: rest)) :=
  pt_g S hin hK hP 6 rfl rfl 2 (by decide) hlink rfl hdg kk
theorem pf_X1_2 (S : CallFix p m c cc nL s args Ts own) (hin : ∀ w ∈ wsX10, w ∈ Ts) (hK : pt_KK D (tysC ca) s) (hP : va_P D vwCl (wC ca ad σ) H) (hDa : ∀ σ, va_D A (wC ca ad σ)) (hS : va_S A H0 H locs) (hlink : (Cond.fieldLink own index "PackThreads$Memory" "left" "I").before args s = true) (e1 : σ1 = (pt_put σ 6 2 v)) (hdg : decode cc pc = .ok (.putfield index, 3)) (kk : ∀ (H1 : Heap) (locs1 : List Loc), va_P D vwCl (wC ca ad σ1) H1 → va_S A H0 H1 locs1 → W p l e R s m args below meth c H1 locs1 cells slots Q (F0 m (pc + 3) ls rest)) : W p l e R s m args below meth c H locs cells slots Q (F0 m pc ls (.int v :: .ref (ad 6) :: rest)) := by
  subst e1
  exact pt_p S hin tyX1_ok nmX1 hK hP (hDa σ) hS 6 rfl rfl 2 (by decide) hlink rfl rfl rfl (Nat.le_of_ble_eq_true rfl) rfl hdg kk
theorem gfN_X1_2 (S : CallFix p m c cc nL s args Ts own) (hin : ∀ w ∈ wsX10, w ∈ Ts) (hK : pt_KK D (tysC ca) s) (hP : va_P D vwCl (wC ca ad σ) H) (hlink : (own, index, "PackThreads$Memory", "left", "I", "PackThreads") ∈ pt_nf) (hdg : decode cc pc = .ok (.getfield index, 3)) (kk : W p l e R s m args below meth c H locs cells slots Q (F0 m (pc + 3) ls (.int (σ 6 2) :: rest))) : W p l e R s m args below meth c H locs cells slots Q (F0 m pc ls (.ref (ad 6) :: rest)) :=
  pt_gN S hin hK hP 6 rfl rfl 2 (by decide) hlink rfl hdg kk
theorem pfN_X1_2 (S : CallFix p m c cc nL s args Ts own) (hin : ∀ w ∈ wsX10, w ∈ Ts) (hK : pt_KK D (tysC ca) s) (hP : va_P D vwCl (wC ca ad σ) H) (hDa : ∀ σ, va_D A (wC ca ad σ)) (hS : va_S A H0 H locs) (hlink : (own, index, "PackThreads$Memory", "left", "I", "PackThreads") ∈ pt_nf) (e1 : σ1 = (pt_put σ 6 2 v)) (hdg : decode cc pc = .ok (.putfield index, 3)) (kk : ∀ (H1 : Heap) (locs1 : List Loc), va_P D vwCl (wC ca ad σ1) H1 → va_S A H0 H1 locs1 → W p l e R s m args below meth c H1 locs1 cells slots Q (F0 m (pc + 3) ls rest)) : W p l e R s m args below meth c H locs cells slots Q (F0 m pc ls (.int v :: .ref (ad 6) :: rest)) := by
  subst e1
  exact pt_pN S hin tyX1_ok nmX1 hK hP (hDa σ) hS 6 rfl rfl 2 (by decide) hlink rfl rfl rfl (Nat.le_of_ble_eq_true rfl) rfl hdg kk
theorem gf_X4_0 (S : CallFix p m c cc nL s args Ts own) (hin : ∀ w ∈ wsX40, w ∈ Ts) (hK : pt_KK D (tysC ca) s) (hP : va_P D vwCl (wC ca ad σ) H) (hlink : (Cond.fieldLink own index "PackThreads$Row" "kept" "[Z").before args s = true) (hdg : decode cc pc = .ok (.getfield index, 3)) (kk : W p l e R s m args below meth c H locs cells slots Q (F0 m (pc + 3) ls (.ref (ad 24) :: rest))) : W p l e R s m args below meth c H locs cells slots Q (F0 m pc ls (.ref (ad 7) :: rest)) :=
  pt_g S hin hK hP 7 rfl rfl 0 (by decide) hlink rfl hdg kk
theorem gf_X4_1 (S : CallFix p m c cc nL s args Ts own) (hin : ∀ w ∈ wsX40, w ∈ Ts) (hK : pt_KK D (tysC ca) s) (hP : va_P D vwCl (wC ca ad σ) H) (hlink : (Cond.fieldLink own index "PackThreads$Row" "packs" "I").before args s = true) (hdg : decode cc pc = .ok (.getfield index, 3)) (kk : W p l e R s m args below meth c H locs cells slots Q (F0 m (pc + 3) ls (.int (σ 7 1) :: rest))) : W p l e R s m args below meth c H locs cells slots Q (F0 m pc ls (.ref (ad 7) :: rest)) :=
  pt_g S hin hK hP 7 rfl rfl 1 (by decide) hlink rfl hdg kk
theorem pf_X4_1 (S : CallFix p m c cc nL s args Ts own) (hin : ∀ w ∈ wsX40, w ∈ Ts) (hK : pt_KK D (tysC ca) s) (hP : va_P D vwCl (wC ca ad σ) H) (hDa : ∀ σ, va_D A (wC ca ad σ)) (hS : va_S A H0 H locs) (hlink : (Cond.fieldLink own index "PackThreads$Row" "packs" "I").before args s = true) (e1 : σ1 = (pt_put σ 7 1 v)) (hdg : decode cc pc = .ok (.putfield index, 3)) (kk : ∀ (H1 : Heap) (locs1 : List Loc), va_P D vwCl (wC ca ad σ1) H1 → va_S A H0 H1 locs1 → W p l e R s m args below meth c H1 locs1 cells slots Q (F0 m (pc + 3) ls rest)) : W p l e R s m args below meth c H locs cells slots Q (F0 m pc ls (.int v :: .ref (ad 7) :: rest)) := by
  subst e1
  exact pt_p S hin tyX4_ok nmX4 hK hP (hDa σ) hS 7 rfl rfl 1 (by decide) hlink rfl rfl rfl (Nat.le_of_ble_eq_true rfl) rfl hdg kk
theorem gfN_X4_1 (S : CallFix p m c cc nL s args Ts own) (hin : ∀ w ∈ wsX40, w ∈ Ts) (hK : pt_KK D (tysC ca) s) (hP : va_P D vwCl (wC ca ad σ) H) (hlink : (own, index, "PackThreads$Row", "packs", "I", "PackThreads") ∈ pt_nf) (hdg : decode cc pc = .ok (.getfield index, 3)) (kk : W p l e R s m args below meth c H locs cells slots Q (F0 m (pc + 3) ls (.int (σ 7 1) :: rest))) : W p l e R s m args below meth c H locs cells slots Q (F0 m pc ls (.ref (ad 7) :: rest)) :=
  pt_gN S hin hK hP 7 rfl rfl 1 (by decide) hlink rfl hdg kk
theorem pfN_X4_1 (S : CallFix p m c cc nL s args Ts own) (hin : ∀ w ∈ wsX40, w ∈ Ts) (hK : pt_KK D (tysC ca) s) (hP : va_P D vwCl (wC ca ad σ) H) (hDa : ∀ σ, va_D A (wC ca ad σ)) (hS : va_S A H0 H locs) (hlink : (own, index, "PackThreads$Row", "packs", "I", "PackThreads") ∈ pt_nf) (e1 : σ1 = (pt_put σ 7 1 v)) (hdg : decode cc pc = .ok (.putfield index, 3)) (kk : ∀ (H1 : Heap) (locs1 : List Loc), va_P D vwCl (wC ca ad σ1) H1 → va_S A H0 H1 locs1 → W p l e R s m args below meth c H1 locs1 cells slots Q (F0 m (pc + 3) ls rest)) : W p l e R s m args below meth c H locs cells slots Q (F0 m pc ls (.int v :: .ref (ad 7) :: rest)) := by
  subst e1
  exact pt_pN S hin tyX4_ok nmX4 hK hP (hDa σ) hS 7 rfl rfl 1 (by decide) hlink rfl rfl rfl (Nat.le_of_ble_eq_true rfl) rfl hdg kk
theorem gf_X4_2 (S : CallFix p m c cc nL s args Ts own) (hin : ∀ w ∈ wsX40, w ∈ Ts) (hK : pt_KK D (tysC ca) s) (hP : va_P D vwCl (wC ca ad σ) H) (hlink : (Cond.fieldLink own index "PackThreads$Row" "limit" "I").before args s = true) (hdg : decode cc pc = .ok (.getfield index, 3)) (kk : W p l e R s m args below meth c H locs cells slots Q (F0 m (pc + 3) ls (.int (σ 7 2) :: rest))) : W p l e R s m args below meth c H locs cells slots Q (F0 m pc ls (.ref (ad 7) :: rest)) :=
  pt_g S hin hK hP 7 rfl rfl 2 (by decide) hlink rfl hdg kk
theorem pf_X4_2 (S : CallFix p m c cc nL s args Ts own) (hin : ∀ w ∈ wsX40, w ∈ Ts) (hK : pt_KK D (tysC ca) s) (hP : va_P D vwCl (wC ca ad σ) H) (hDa : ∀ σ, va_D A (wC ca ad σ)) (hS : va_S A H0 H locs) (hlink : (Cond.fieldLink own index "PackThreads$Row" "limit" "I").before args s = true) (e1 : σ1 = (pt_put σ 7 2 v)) (hdg : decode cc pc = .ok (.putfield index, 3)) (kk : ∀ (H1 : Heap) (locs1 : List Loc), va_P D vwCl (wC ca ad σ1) H1 → va_S A H0 H1 locs1 → W p l e R s m args below meth c H1 locs1 cells slots Q (F0 m (pc + 3) ls rest)) : W p l e R s m args below meth c H locs cells slots Q (F0 m pc ls (.int v :: .ref (ad 7) :: rest)) := by
  subst e1
  exact pt_p S hin tyX4_ok nmX4 hK hP (hDa σ) hS 7 rfl rfl 2 (by decide) hlink rfl rfl rfl (Nat.le_of_ble_eq_true rfl) rfl hdg kk
theorem gf_X4_3 (S : CallFix p m c cc nL s args Ts own) (hin : ∀ w ∈ wsX40, w ∈ Ts) (hK : pt_KK D (tysC ca) s) (hP : va_P D vwCl (wC ca ad σ) H) (hlink : (Cond.fieldLink own index "PackThreads$Row" "joined" "I").before args s = true) (hdg : decode cc pc = .ok (.getfield index, 3)) (kk : W p l e R s m args below meth c H locs cells slots Q (F0 m (pc + 3) ls (.int (σ 7 3) :: rest))) : W p l e R s m args below meth c H locs cells slots Q (F0 m pc ls (.ref (ad 7) :: rest)) :=
  pt_g S hin hK hP 7 rfl rfl 3 (by decide) hlink rfl hdg kk
theorem pf_X4_3 (S : CallFix p m c cc nL s args Ts own) (hin : ∀ w ∈ wsX40, w ∈ Ts) (hK : pt_KK D (tysC ca) s) (hP : va_P D vwCl (wC ca ad σ) H) (hDa : ∀ σ, va_D A (wC ca ad σ)) (hS : va_S A H0 H locs) (hlink : (Cond.fieldLink own index "PackThreads$Row" "joined" "I").before args s = true) (e1 : σ1 = (pt_put σ 7 3 v)) (hdg : decode cc pc = .ok (.putfield index, 3)) (kk : ∀ (H1 : Heap) (locs1 : List Loc), va_P D vwCl (wC ca ad σ1) H1 → va_S A H0 H1 locs1 → W p l e R s m args below meth c H1 locs1 cells slots Q (F0 m (pc + 3) ls rest)) : W p l e R s m args below meth c H locs cells slots Q (F0 m pc ls (.int v :: .ref (ad 7) :: rest)) := by
  subst e1
  exact pt_p S hin tyX4_ok nmX4 hK hP (hDa σ) hS 7 rfl rfl 3 (by decide) hlink rfl rfl rfl (Nat.le_of_ble_eq_true rfl) rfl hdg kk
theorem gfN_X4_3 (S : CallFix p m c cc nL s args Ts own) (hin : ∀ w ∈ wsX40, w ∈ Ts) (hK : pt_KK D (tysC ca) s) (hP : va_P D vwCl (wC ca ad σ) H) (hlink : (own, index, "PackThreads$Row", "joined", "I", "PackThreads") ∈ pt_nf) (hdg : decode cc pc = .ok (.getfield index, 3)) (kk : W p l e R s m args below meth c H locs cells slots Q (F0 m (pc + 3) ls (.int (σ 7 3) :: rest))) : W p l e R s m args below meth c H locs cells slots Q (F0 m pc ls (.ref (ad 7) :: rest)) :=
  pt_gN S hin hK hP 7 rfl rfl 3 (by decide) hlink rfl hdg kk
theorem pfN_X4_3 (S : CallFix p m c cc nL s args Ts own) (hin : ∀ w ∈ wsX40, w ∈ Ts) (hK : pt_KK D (tysC ca) s) (hP : va_P D vwCl (wC ca ad σ) H) (hDa : ∀ σ, va_D A (wC ca ad σ)) (hS : va_S A H0 H locs) (hlink : (own, index, "PackThreads$Row", "joined", "I", "PackThreads") ∈ pt_nf) (e1 : σ1 = (pt_put σ 7 3 v)) (hdg : decode cc pc = .ok (.putfield index, 3)) (kk : ∀ (H1 : Heap) (locs1 : List Loc), va_P D vwCl (wC ca ad σ1) H1 → va_S A H0 H1 locs1 → W p l e R s m args below meth c H1 locs1 cells slots Q (F0 m (pc + 3) ls rest)) : W p l e R s m args below meth c H locs cells slots Q (F0 m pc ls (.int v :: .ref (ad 7) :: rest)) := by
  subst e1
  exact pt_pN S hin tyX4_ok nmX4 hK hP (hDa σ) hS 7 rfl rfl 3 (by decide) hlink rfl rfl rfl (Nat.le_of_ble_eq_true rfl) rfl hdg kk
theorem gf_X0_0 (S : CallFix p m c cc nL s args Ts own) (hin : ∀ w ∈ wsX00, w ∈ Ts) (hK : pt_KK D (tysC ca) s) (hP : va_P D vwCl (wC ca ad σ) H) (hlink : (Cond.fieldLink own index "PackThreads$Failed" "before" "[Z").before args s = true) (hdg : decode cc pc = .ok (.getfield index, 3)) (kk : W p l e R s m args below meth c H locs cells slots Q (F0 m (pc + 3) ls (.ref (ad 25) :: rest))) : W p l e R s m args below meth c H locs cells slots Q (F0 m pc ls (.ref (ad 8) :: rest)) :=
  pt_g S hin hK hP 8 rfl rfl 0 (by decide) hlink rfl hdg kk
theorem gf_X0_1 (S : CallFix p m c cc nL s args Ts own) (hin : ∀ w ∈ wsX00, w ∈ Ts) (hK : pt_KK D (tysC ca) s) (hP : va_P D vwCl (wC ca ad σ) H) (hlink : (Cond.fieldLink own index "PackThreads$Failed" "line" "[I").before args s = true) (hdg : decode cc pc = .ok (.getfield index, 3)) (kk : W p l e R s m args below meth c H locs cells slots Q (F0 m (pc + 3) ls (.ref (ad 26) :: rest))) : W p l e R s m args below meth c H locs cells slots Q (F0 m pc ls (.ref (ad 8) :: rest)) :=
  pt_g S hin hK hP 8 rfl rfl 1 (by decide) hlink rfl hdg kk
theorem gf_X0_2 (S : CallFix p m c cc nL s args Ts own) (hin : ∀ w ∈ wsX00, w ∈ Ts) (hK : pt_KK D (tysC ca) s) (hP : va_P D vwCl (wC ca ad σ) H) (hlink : (Cond.fieldLink own index "PackThreads$Failed" "inLine" "I").before args s = true) (hdg : decode cc pc = .ok (.getfield index, 3)) (kk : W p l e R s m args below meth c H locs cells slots Q (F0 m (pc + 3) ls (.int (σ 8 2) :: rest))) : W p l e R s m args below meth c H locs cells slots Q (F0 m pc ls (.ref (ad 8) :: rest)) :=
  pt_g S hin hK hP 8 rfl rfl 2 (by decide) hlink rfl hdg kk
theorem pf_X0_2 (S : CallFix p m c cc nL s args Ts own) (hin : ∀ w ∈ wsX00, w ∈ Ts) (hK : pt_KK D (tysC ca) s) (hP : va_P D vwCl (wC ca ad σ) H) (hDa : ∀ σ, va_D A (wC ca ad σ)) (hS : va_S A H0 H locs) (hlink : (Cond.fieldLink own index "PackThreads$Failed" "inLine" "I").before args s = true) (e1 : σ1 = (pt_put σ 8 2 v)) (hdg : decode cc pc = .ok (.putfield index, 3)) (kk : ∀ (H1 : Heap) (locs1 : List Loc), va_P D vwCl (wC ca ad σ1) H1 → va_S A H0 H1 locs1 → W p l e R s m args below meth c H1 locs1 cells slots Q (F0 m (pc + 3) ls rest)) : W p l e R s m args below meth c H locs cells slots Q (F0 m pc ls (.int v :: .ref (ad 8) :: rest)) := by
  subst e1
  exact pt_p S hin tyX0_ok nmX0 hK hP (hDa σ) hS 8 rfl rfl 2 (by decide) hlink rfl rfl rfl (Nat.le_of_ble_eq_true rfl) rfl hdg kk
theorem gfN_X0_2 (S : CallFix p m c cc nL s args Ts own) (hin : ∀ w ∈ wsX00, w ∈ Ts) (hK : pt_KK D (tysC ca) s) (hP : va_P D vwCl (wC ca ad σ) H) (hlink : (own, index, "PackThreads$Failed", "inLine", "I", "PackThreads") ∈ pt_nf) (hdg : decode cc pc = .ok (.getfield index, 3)) (kk : W p l e R s m args below meth c H locs cells slots Q (F0 m (pc + 3) ls (.int (σ 8 2) :: rest))) : W p l e R s m args below meth c H locs cells slots Q (F0 m pc ls (.ref (ad 8) :: rest)) :=
  pt_gN S hin hK hP 8 rfl rfl 2 (by decide) hlink rfl hdg kk
theorem pfN_X0_2 (S : CallFix p m c cc nL s args Ts own) (hin : ∀ w ∈ wsX00, w ∈ Ts) (hK : pt_KK D (tysC ca) s) (hP : va_P D vwCl (wC ca ad σ) H) (hDa : ∀ σ, va_D A (wC ca ad σ)) (hS : va_S A H0 H locs) (hlink : (own, index, "PackThreads$Failed", "inLine", "I", "PackThreads") ∈ pt_nf) (e1 : σ1 = (pt_put σ 8 2 v)) (hdg : decode cc pc = .ok (.putfield index, 3)) (kk : ∀ (H1 : Heap) (locs1 : List Loc), va_P D vwCl (wC ca ad σ1) H1 → va_S A H0 H1 locs1 → W p l e R s m args below meth c H1 locs1 cells slots Q (F0 m (pc + 3) ls rest)) : W p l e R s m args below meth c H locs cells slots Q (F0 m pc ls (.int v :: .ref (ad 8) :: rest)) := by
  subst e1
  exact pt_pN S hin tyX0_ok nmX0 hK hP (hDa σ) hS 8 rfl rfl 2 (by decide) hlink rfl rfl rfl (Nat.le_of_ble_eq_true rfl) rfl hdg kk
theorem gf_X8_0 {n : Nat} (hn : n < 6) (S : CallFix p m c cc nL s args Ts own) (hin : ∀ w ∈ wsX80, w ∈ Ts) (hK : pt_KK D (tysC ca) s) (hP : va_P D vwCl (wC ca ad σ) H) (hlink : (Cond.fieldLink own index "PackThreads$Worker" "number" "I").before args s = true) (hdg : decode cc pc = .ok (.getfield index, 3)) (kk : W p l e R s m args below meth c H locs cells slots Q (F0 m (pc + 3) ls (.int (σ (9 + n) 0) :: rest))) : W p l e R s m args below meth c H locs cells slots Q (F0 m pc ls (.ref (ad (9 + n)) :: rest)) :=
  pt_g S hin hK hP (9 + n) (pt_w8 hn ca ad σ) rfl 0 (by decide) hlink rfl hdg kk
theorem gfN_X8_0 {n : Nat} (hn : n < 6) (S : CallFix p m c cc nL s args Ts own) (hin : ∀ w ∈ wsX80, w ∈ Ts) (hK : pt_KK D (tysC ca) s) (hP : va_P D vwCl (wC ca ad σ) H) (hlink : (own, index, "PackThreads$Worker", "number", "I", "PackThreads") ∈ pt_nf) (hdg : decode cc pc = .ok (.getfield index, 3)) (kk : W p l e R s m args below meth c H locs cells slots Q (F0 m (pc + 3) ls (.int (σ (9 + n) 0) :: rest))) : W p l e R s m args below meth c H locs cells slots Q (F0 m pc ls (.ref (ad (9 + n)) :: rest)) :=
  pt_gN S hin hK hP (9 + n) (pt_w8 hn ca ad σ) rfl 0 (by decide) hlink rfl hdg kk
theorem gf_X8_1 {n : Nat} (hn : n < 6) (S : CallFix p m c cc nL s args Ts own) (hin : ∀ w ∈ wsX80, w ∈ Ts) (hK : pt_KK D (tysC ca) s) (hP : va_P D vwCl (wC ca ad σ) H) (hlink : (Cond.fieldLink own index "PackThreads$Worker" "state" "I").before args s = true) (hdg : decode cc pc = .ok (.getfield index, 3)) (kk : W p l e R s m args below meth c H locs cells slots Q (F0 m (pc + 3) ls (.int (σ (9 + n) 1) :: rest))) : W p l e R s m args below meth c H locs cells slots Q (F0 m pc ls (.ref (ad (9 + n)) :: rest)) :=
  pt_g S hin hK hP (9 + n) (pt_w8 hn ca ad σ) rfl 1 (by decide) hlink rfl hdg kk
theorem pf_X8_1 {n : Nat} (hn : n < 6) (S : CallFix p m c cc nL s args Ts own) (hin : ∀ w ∈ wsX80, w ∈ Ts) (hK : pt_KK D (tysC ca) s) (hP : va_P D vwCl (wC ca ad σ) H) (hDa : ∀ σ, va_D A (wC ca ad σ)) (hS : va_S A H0 H locs) (hlink : (Cond.fieldLink own index "PackThreads$Worker" "state" "I").before args s = true) (e1 : σ1 = (pt_put σ (9 + n) 1 v)) (hdg : decode cc pc = .ok (.putfield index, 3)) (kk : ∀ (H1 : Heap) (locs1 : List Loc), va_P D vwCl (wC ca ad σ1) H1 → va_S A H0 H1 locs1 → W p l e R s m args below meth c H1 locs1 cells slots Q (F0 m (pc + 3) ls rest)) : W p l e R s m args below meth c H locs cells slots Q (F0 m pc ls (.int v :: .ref (ad (9 + n)) :: rest)) := by
  subst e1
  exact pt_p S hin tyX8_ok nmX8 hK hP (hDa σ) hS (9 + n) (pt_w8 hn ca ad σ) rfl 1 (by decide) hlink rfl rfl rfl (Nat.le_of_ble_eq_true rfl) (pt_w8_1 hn ca ad σ v) hdg kk
theorem gfN_X8_1 {n : Nat} (hn : n < 6) (S : CallFix p m c cc nL s args Ts own) (hin : ∀ w ∈ wsX80, w ∈ Ts) (hK : pt_KK D (tysC ca) s) (hP : va_P D vwCl (wC ca ad σ) H) (hlink : (own, index, "PackThreads$Worker", "state", "I", "PackThreads") ∈ pt_nf) (hdg : decode cc pc = .ok (.getfield index, 3)) (kk : W p l e R s m args below meth c H locs cells slots Q (F0 m (pc + 3) ls (.int (σ (9 + n) 1) :: rest))) : W p l e R s m args below meth c H locs cells slots Q (F0 m pc ls (.ref (ad (9 + n)) :: rest)) :=
  pt_gN S hin hK hP (9 + n) (pt_w8 hn ca ad σ) rfl 1 (by decide) hlink rfl hdg kk
theorem pfN_X8_1 {n : Nat} (hn : n < 6) (S : CallFix p m c cc nL s args Ts own) (hin : ∀ w ∈ wsX80, w ∈ Ts) (hK : pt_KK D (tysC ca) s) (hP : va_P D vwCl (wC ca ad σ) H) (hDa : ∀ σ, va_D A (wC ca ad σ)) (hS : va_S A H0 H locs) (hlink : (own, index, "PackThreads$Worker", "state", "I", "PackThreads") ∈ pt_nf) (e1 : σ1 = (pt_put σ (9 + n) 1 v)) (hdg : decode cc pc = .ok (.putfield index, 3)) (kk : ∀ (H1 : Heap) (locs1 : List Loc), va_P D vwCl (wC ca ad σ1) H1 → va_S A H0 H1 locs1 → W p l e R s m args below meth c H1 locs1 cells slots Q (F0 m (pc + 3) ls rest)) : W p l e R s m args below meth c H locs cells slots Q (F0 m pc ls (.int v :: .ref (ad (9 + n)) :: rest)) := by
  subst e1
  exact pt_pN S hin tyX8_ok nmX8 hK hP (hDa σ) hS (9 + n) (pt_w8 hn ca ad σ) rfl 1 (by decide) hlink rfl rfl rfl (Nat.le_of_ble_eq_true rfl) (pt_w8_1 hn ca ad σ v) hdg kk
theorem gf_X8_2 {n : Nat} (hn : n < 6) (S : CallFix p m c cc nL s args Ts own) (hin : ∀ w ∈ wsX80, w ∈ Ts) (hK : pt_KK D (tysC ca) s) (hP : va_P D vwCl (wC ca ad σ) H) (hlink : (Cond.fieldLink own index "PackThreads$Worker" "block" "I").before args s = true) (hdg : decode cc pc = .ok (.getfield index, 3)) (kk : W p l e R s m args below meth c H locs cells slots Q (F0 m (pc + 3) ls (.int (σ (9 + n) 2) :: rest))) : W p l e R s m args below meth c H locs cells slots Q (F0 m pc ls (.ref (ad (9 + n)) :: rest)) :=
  pt_g S hin hK hP (9 + n) (pt_w8 hn ca ad σ) rfl 2 (by decide) hlink rfl hdg kk
theorem pf_X8_2 {n : Nat} (hn : n < 6) (S : CallFix p m c cc nL s args Ts own) (hin : ∀ w ∈ wsX80, w ∈ Ts) (hK : pt_KK D (tysC ca) s) (hP : va_P D vwCl (wC ca ad σ) H) (hDa : ∀ σ, va_D A (wC ca ad σ)) (hS : va_S A H0 H locs) (hlink : (Cond.fieldLink own index "PackThreads$Worker" "block" "I").before args s = true) (e1 : σ1 = (pt_put σ (9 + n) 2 v)) (hdg : decode cc pc = .ok (.putfield index, 3)) (kk : ∀ (H1 : Heap) (locs1 : List Loc), va_P D vwCl (wC ca ad σ1) H1 → va_S A H0 H1 locs1 → W p l e R s m args below meth c H1 locs1 cells slots Q (F0 m (pc + 3) ls rest)) : W p l e R s m args below meth c H locs cells slots Q (F0 m pc ls (.int v :: .ref (ad (9 + n)) :: rest)) := by
  subst e1
  exact pt_p S hin tyX8_ok nmX8 hK hP (hDa σ) hS (9 + n) (pt_w8 hn ca ad σ) rfl 2 (by decide) hlink rfl rfl rfl (Nat.le_of_ble_eq_true rfl) (pt_w8_2 hn ca ad σ v) hdg kk
theorem gfN_X8_2 {n : Nat} (hn : n < 6) (S : CallFix p m c cc nL s args Ts own) (hin : ∀ w ∈ wsX80, w ∈ Ts) (hK : pt_KK D (tysC ca) s) (hP : va_P D vwCl (wC ca ad σ) H) (hlink : (own, index, "PackThreads$Worker", "block", "I", "PackThreads") ∈ pt_nf) (hdg : decode cc pc = .ok (.getfield index, 3)) (kk : W p l e R s m args below meth c H locs cells slots Q (F0 m (pc + 3) ls (.int (σ (9 + n) 2) :: rest))) : W p l e R s m args below meth c H locs cells slots Q (F0 m pc ls (.ref (ad (9 + n)) :: rest)) :=
  pt_gN S hin hK hP (9 + n) (pt_w8 hn ca ad σ) rfl 2 (by decide) hlink rfl hdg kk
theorem pfN_X8_2 {n : Nat} (hn : n < 6) (S : CallFix p m c cc nL s args Ts own) (hin : ∀ w ∈ wsX80, w ∈ Ts) (hK : pt_KK D (tysC ca) s) (hP : va_P D vwCl (wC ca ad σ) H) (hDa : ∀ σ, va_D A (wC ca ad σ)) (hS : va_S A H0 H locs) (hlink : (own, index, "PackThreads$Worker", "block", "I", "PackThreads") ∈ pt_nf) (e1 : σ1 = (pt_put σ (9 + n) 2 v)) (hdg : decode cc pc = .ok (.putfield index, 3)) (kk : ∀ (H1 : Heap) (locs1 : List Loc), va_P D vwCl (wC ca ad σ1) H1 → va_S A H0 H1 locs1 → W p l e R s m args below meth c H1 locs1 cells slots Q (F0 m (pc + 3) ls rest)) : W p l e R s m args below meth c H locs cells slots Q (F0 m pc ls (.int v :: .ref (ad (9 + n)) :: rest)) := by
  subst e1
  exact pt_pN S hin tyX8_ok nmX8 hK hP (hDa σ) hS (9 + n) (pt_w8 hn ca ad σ) rfl 2 (by decide) hlink rfl rfl rfl (Nat.le_of_ble_eq_true rfl) (pt_w8_2 hn ca ad σ v) hdg kk
theorem gf_X8_3 {n : Nat} (hn : n < 6) (S : CallFix p m c cc nL s args Ts own) (hin : ∀ w ∈ wsX80, w ∈ Ts) (hK : pt_KK D (tysC ca) s) (hP : va_P D vwCl (wC ca ad σ) H) (hlink : (Cond.fieldLink own index "PackThreads$Worker" "step" "I").before args s = true) (hdg : decode cc pc = .ok (.getfield index, 3)) (kk : W p l e R s m args below meth c H locs cells slots Q (F0 m (pc + 3) ls (.int (σ (9 + n) 3) :: rest))) : W p l e R s m args below meth c H locs cells slots Q (F0 m pc ls (.ref (ad (9 + n)) :: rest)) :=
  pt_g S hin hK hP (9 + n) (pt_w8 hn ca ad σ) rfl 3 (by decide) hlink rfl hdg kk
theorem pf_X8_3 {n : Nat} (hn : n < 6) (S : CallFix p m c cc nL s args Ts own) (hin : ∀ w ∈ wsX80, w ∈ Ts) (hK : pt_KK D (tysC ca) s) (hP : va_P D vwCl (wC ca ad σ) H) (hDa : ∀ σ, va_D A (wC ca ad σ)) (hS : va_S A H0 H locs) (hlink : (Cond.fieldLink own index "PackThreads$Worker" "step" "I").before args s = true) (e1 : σ1 = (pt_put σ (9 + n) 3 v)) (hdg : decode cc pc = .ok (.putfield index, 3)) (kk : ∀ (H1 : Heap) (locs1 : List Loc), va_P D vwCl (wC ca ad σ1) H1 → va_S A H0 H1 locs1 → W p l e R s m args below meth c H1 locs1 cells slots Q (F0 m (pc + 3) ls rest)) : W p l e R s m args below meth c H locs cells slots Q (F0 m pc ls (.int v :: .ref (ad (9 + n)) :: rest)) := by
  subst e1
  exact pt_p S hin tyX8_ok nmX8 hK hP (hDa σ) hS (9 + n) (pt_w8 hn ca ad σ) rfl 3 (by decide) hlink rfl rfl rfl (Nat.le_of_ble_eq_true rfl) (pt_w8_3 hn ca ad σ v) hdg kk
theorem gfN_X8_3 {n : Nat} (hn : n < 6) (S : CallFix p m c cc nL s args Ts own) (hin : ∀ w ∈ wsX80, w ∈ Ts) (hK : pt_KK D (tysC ca) s) (hP : va_P D vwCl (wC ca ad σ) H) (hlink : (own, index, "PackThreads$Worker", "step", "I", "PackThreads") ∈ pt_nf) (hdg : decode cc pc = .ok (.getfield index, 3)) (kk : W p l e R s m args below meth c H locs cells slots Q (F0 m (pc + 3) ls (.int (σ (9 + n) 3) :: rest))) : W p l e R s m args below meth c H locs cells slots Q (F0 m pc ls (.ref (ad (9 + n)) :: rest)) :=
  pt_gN S hin hK hP (9 + n) (pt_w8 hn ca ad σ) rfl 3 (by decide) hlink rfl hdg kk
theorem pfN_X8_3 {n : Nat} (hn : n < 6) (S : CallFix p m c cc nL s args Ts own) (hin : ∀ w ∈ wsX80, w ∈ Ts) (hK : pt_KK D (tysC ca) s) (hP : va_P D vwCl (wC ca ad σ) H) (hDa : ∀ σ, va_D A (wC ca ad σ)) (hS : va_S A H0 H locs) (hlink : (own, index, "PackThreads$Worker", "step", "I", "PackThreads") ∈ pt_nf) (e1 : σ1 = (pt_put σ (9 + n) 3 v)) (hdg : decode cc pc = .ok (.putfield index, 3)) (kk : ∀ (H1 : Heap) (locs1 : List Loc), va_P D vwCl (wC ca ad σ1) H1 → va_S A H0 H1 locs1 → W p l e R s m args below meth c H1 locs1 cells slots Q (F0 m (pc + 3) ls rest)) : W p l e R s m args below meth c H locs cells slots Q (F0 m pc ls (.int v :: .ref (ad (9 + n)) :: rest)) := by
  subst e1
  exact pt_pN S hin tyX8_ok nmX8 hK hP (hDa σ) hS (9 + n) (pt_w8 hn ca ad σ) rfl 3 (by decide) hlink rfl rfl rfl (Nat.le_of_ble_eq_true rfl) (pt_w8_3 hn ca ad σ v) hdg kk
theorem gf_X8_4 {n : Nat} (hn : n < 6) (S : CallFix p m c cc nL s args Ts own) (hin : ∀ w ∈ wsX80, w ∈ Ts) (hK : pt_KK D (tysC ca) s) (hP : va_P D vwCl (wC ca ad σ) H) (hlink : (Cond.fieldLink own index "PackThreads$Worker" "cells" "I").before args s = true) (hdg : decode cc pc = .ok (.getfield index, 3)) (kk : W p l e R s m args below meth c H locs cells slots Q (F0 m (pc + 3) ls (.int (σ (9 + n) 4) :: rest))) : W p l e R s m args below meth c H locs cells slots Q (F0 m pc ls (.ref (ad (9 + n)) :: rest)) :=
  pt_g S hin hK hP (9 + n) (pt_w8 hn ca ad σ) rfl 4 (by decide) hlink rfl hdg kk
theorem pf_X8_4 {n : Nat} (hn : n < 6) (S : CallFix p m c cc nL s args Ts own) (hin : ∀ w ∈ wsX80, w ∈ Ts) (hK : pt_KK D (tysC ca) s) (hP : va_P D vwCl (wC ca ad σ) H) (hDa : ∀ σ, va_D A (wC ca ad σ)) (hS : va_S A H0 H locs) (hlink : (Cond.fieldLink own index "PackThreads$Worker" "cells" "I").before args s = true) (e1 : σ1 = (pt_put σ (9 + n) 4 v)) (hdg : decode cc pc = .ok (.putfield index, 3)) (kk : ∀ (H1 : Heap) (locs1 : List Loc), va_P D vwCl (wC ca ad σ1) H1 → va_S A H0 H1 locs1 → W p l e R s m args below meth c H1 locs1 cells slots Q (F0 m (pc + 3) ls rest)) : W p l e R s m args below meth c H locs cells slots Q (F0 m pc ls (.int v :: .ref (ad (9 + n)) :: rest)) := by
  subst e1
  exact pt_p S hin tyX8_ok nmX8 hK hP (hDa σ) hS (9 + n) (pt_w8 hn ca ad σ) rfl 4 (by decide) hlink rfl rfl rfl (Nat.le_of_ble_eq_true rfl) (pt_w8_4 hn ca ad σ v) hdg kk
theorem gfN_X8_4 {n : Nat} (hn : n < 6) (S : CallFix p m c cc nL s args Ts own) (hin : ∀ w ∈ wsX80, w ∈ Ts) (hK : pt_KK D (tysC ca) s) (hP : va_P D vwCl (wC ca ad σ) H) (hlink : (own, index, "PackThreads$Worker", "cells", "I", "PackThreads") ∈ pt_nf) (hdg : decode cc pc = .ok (.getfield index, 3)) (kk : W p l e R s m args below meth c H locs cells slots Q (F0 m (pc + 3) ls (.int (σ (9 + n) 4) :: rest))) : W p l e R s m args below meth c H locs cells slots Q (F0 m pc ls (.ref (ad (9 + n)) :: rest)) :=
  pt_gN S hin hK hP (9 + n) (pt_w8 hn ca ad σ) rfl 4 (by decide) hlink rfl hdg kk
theorem pfN_X8_4 {n : Nat} (hn : n < 6) (S : CallFix p m c cc nL s args Ts own) (hin : ∀ w ∈ wsX80, w ∈ Ts) (hK : pt_KK D (tysC ca) s) (hP : va_P D vwCl (wC ca ad σ) H) (hDa : ∀ σ, va_D A (wC ca ad σ)) (hS : va_S A H0 H locs) (hlink : (own, index, "PackThreads$Worker", "cells", "I", "PackThreads") ∈ pt_nf) (e1 : σ1 = (pt_put σ (9 + n) 4 v)) (hdg : decode cc pc = .ok (.putfield index, 3)) (kk : ∀ (H1 : Heap) (locs1 : List Loc), va_P D vwCl (wC ca ad σ1) H1 → va_S A H0 H1 locs1 → W p l e R s m args below meth c H1 locs1 cells slots Q (F0 m (pc + 3) ls rest)) : W p l e R s m args below meth c H locs cells slots Q (F0 m pc ls (.int v :: .ref (ad (9 + n)) :: rest)) := by
  subst e1
  exact pt_pN S hin tyX8_ok nmX8 hK hP (hDa σ) hS (9 + n) (pt_w8 hn ca ad σ) rfl 4 (by decide) hlink rfl rfl rfl (Nat.le_of_ble_eq_true rfl) (pt_w8_4 hn ca ad σ v) hdg kk
theorem gf_X8_5 {n : Nat} (hn : n < 6) (S : CallFix p m c cc nL s args Ts own) (hin : ∀ w ∈ wsX80, w ∈ Ts) (hK : pt_KK D (tysC ca) s) (hP : va_P D vwCl (wC ca ad σ) H) (hlink : (Cond.fieldLink own index "PackThreads$Worker" "made" "I").before args s = true) (hdg : decode cc pc = .ok (.getfield index, 3)) (kk : W p l e R s m args below meth c H locs cells slots Q (F0 m (pc + 3) ls (.int (σ (9 + n) 5) :: rest))) : W p l e R s m args below meth c H locs cells slots Q (F0 m pc ls (.ref (ad (9 + n)) :: rest)) :=
  pt_g S hin hK hP (9 + n) (pt_w8 hn ca ad σ) rfl 5 (by decide) hlink rfl hdg kk
theorem pf_X8_5 {n : Nat} (hn : n < 6) (S : CallFix p m c cc nL s args Ts own) (hin : ∀ w ∈ wsX80, w ∈ Ts) (hK : pt_KK D (tysC ca) s) (hP : va_P D vwCl (wC ca ad σ) H) (hDa : ∀ σ, va_D A (wC ca ad σ)) (hS : va_S A H0 H locs) (hlink : (Cond.fieldLink own index "PackThreads$Worker" "made" "I").before args s = true) (e1 : σ1 = (pt_put σ (9 + n) 5 v)) (hdg : decode cc pc = .ok (.putfield index, 3)) (kk : ∀ (H1 : Heap) (locs1 : List Loc), va_P D vwCl (wC ca ad σ1) H1 → va_S A H0 H1 locs1 → W p l e R s m args below meth c H1 locs1 cells slots Q (F0 m (pc + 3) ls rest)) : W p l e R s m args below meth c H locs cells slots Q (F0 m pc ls (.int v :: .ref (ad (9 + n)) :: rest)) := by
  subst e1
  exact pt_p S hin tyX8_ok nmX8 hK hP (hDa σ) hS (9 + n) (pt_w8 hn ca ad σ) rfl 5 (by decide) hlink rfl rfl rfl (Nat.le_of_ble_eq_true rfl) (pt_w8_5 hn ca ad σ v) hdg kk
theorem gfN_X8_5 {n : Nat} (hn : n < 6) (S : CallFix p m c cc nL s args Ts own) (hin : ∀ w ∈ wsX80, w ∈ Ts) (hK : pt_KK D (tysC ca) s) (hP : va_P D vwCl (wC ca ad σ) H) (hlink : (own, index, "PackThreads$Worker", "made", "I", "PackThreads") ∈ pt_nf) (hdg : decode cc pc = .ok (.getfield index, 3)) (kk : W p l e R s m args below meth c H locs cells slots Q (F0 m (pc + 3) ls (.int (σ (9 + n) 5) :: rest))) : W p l e R s m args below meth c H locs cells slots Q (F0 m pc ls (.ref (ad (9 + n)) :: rest)) :=
  pt_gN S hin hK hP (9 + n) (pt_w8 hn ca ad σ) rfl 5 (by decide) hlink rfl hdg kk
theorem pfN_X8_5 {n : Nat} (hn : n < 6) (S : CallFix p m c cc nL s args Ts own) (hin : ∀ w ∈ wsX80, w ∈ Ts) (hK : pt_KK D (tysC ca) s) (hP : va_P D vwCl (wC ca ad σ) H) (hDa : ∀ σ, va_D A (wC ca ad σ)) (hS : va_S A H0 H locs) (hlink : (own, index, "PackThreads$Worker", "made", "I", "PackThreads") ∈ pt_nf) (e1 : σ1 = (pt_put σ (9 + n) 5 v)) (hdg : decode cc pc = .ok (.putfield index, 3)) (kk : ∀ (H1 : Heap) (locs1 : List Loc), va_P D vwCl (wC ca ad σ1) H1 → va_S A H0 H1 locs1 → W p l e R s m args below meth c H1 locs1 cells slots Q (F0 m (pc + 3) ls rest)) : W p l e R s m args below meth c H locs cells slots Q (F0 m pc ls (.int v :: .ref (ad (9 + n)) :: rest)) := by
  subst e1
  exact pt_pN S hin tyX8_ok nmX8 hK hP (hDa σ) hS (9 + n) (pt_w8 hn ca ad σ) rfl 5 (by decide) hlink rfl rfl rfl (Nat.le_of_ble_eq_true rfl) (pt_w8_5 hn ca ad σ v) hdg kk
theorem gf_X8_6 {n : Nat} (hn : n < 6) (S : CallFix p m c cc nL s args Ts own) (hin : ∀ w ∈ wsX80, w ∈ Ts) (hK : pt_KK D (tysC ca) s) (hP : va_P D vwCl (wC ca ad σ) H) (hlink : (Cond.fieldLink own index "PackThreads$Worker" "timesEnded" "I").before args s = true) (hdg : decode cc pc = .ok (.getfield index, 3)) (kk : W p l e R s m args below meth c H locs cells slots Q (F0 m (pc + 3) ls (.int (σ (9 + n) 6) :: rest))) : W p l e R s m args below meth c H locs cells slots Q (F0 m pc ls (.ref (ad (9 + n)) :: rest)) :=
  pt_g S hin hK hP (9 + n) (pt_w8 hn ca ad σ) rfl 6 (by decide) hlink rfl hdg kk
theorem pf_X8_6 {n : Nat} (hn : n < 6) (S : CallFix p m c cc nL s args Ts own) (hin : ∀ w ∈ wsX80, w ∈ Ts) (hK : pt_KK D (tysC ca) s) (hP : va_P D vwCl (wC ca ad σ) H) (hDa : ∀ σ, va_D A (wC ca ad σ)) (hS : va_S A H0 H locs) (hlink : (Cond.fieldLink own index "PackThreads$Worker" "timesEnded" "I").before args s = true) (e1 : σ1 = (pt_put σ (9 + n) 6 v)) (hdg : decode cc pc = .ok (.putfield index, 3)) (kk : ∀ (H1 : Heap) (locs1 : List Loc), va_P D vwCl (wC ca ad σ1) H1 → va_S A H0 H1 locs1 → W p l e R s m args below meth c H1 locs1 cells slots Q (F0 m (pc + 3) ls rest)) : W p l e R s m args below meth c H locs cells slots Q (F0 m pc ls (.int v :: .ref (ad (9 + n)) :: rest)) := by
  subst e1
  exact pt_p S hin tyX8_ok nmX8 hK hP (hDa σ) hS (9 + n) (pt_w8 hn ca ad σ) rfl 6 (by decide) hlink rfl rfl rfl (Nat.le_of_ble_eq_true rfl) (pt_w8_6 hn ca ad σ v) hdg kk
theorem gfN_X8_6 {n : Nat} (hn : n < 6) (S : CallFix p m c cc nL s args Ts own) (hin : ∀ w ∈ wsX80, w ∈ Ts) (hK : pt_KK D (tysC ca) s) (hP : va_P D vwCl (wC ca ad σ) H) (hlink : (own, index, "PackThreads$Worker", "timesEnded", "I", "PackThreads") ∈ pt_nf) (hdg : decode cc pc = .ok (.getfield index, 3)) (kk : W p l e R s m args below meth c H locs cells slots Q (F0 m (pc + 3) ls (.int (σ (9 + n) 6) :: rest))) : W p l e R s m args below meth c H locs cells slots Q (F0 m pc ls (.ref (ad (9 + n)) :: rest)) :=
  pt_gN S hin hK hP (9 + n) (pt_w8 hn ca ad σ) rfl 6 (by decide) hlink rfl hdg kk
theorem pfN_X8_6 {n : Nat} (hn : n < 6) (S : CallFix p m c cc nL s args Ts own) (hin : ∀ w ∈ wsX80, w ∈ Ts) (hK : pt_KK D (tysC ca) s) (hP : va_P D vwCl (wC ca ad σ) H) (hDa : ∀ σ, va_D A (wC ca ad σ)) (hS : va_S A H0 H locs) (hlink : (own, index, "PackThreads$Worker", "timesEnded", "I", "PackThreads") ∈ pt_nf) (e1 : σ1 = (pt_put σ (9 + n) 6 v)) (hdg : decode cc pc = .ok (.putfield index, 3)) (kk : ∀ (H1 : Heap) (locs1 : List Loc), va_P D vwCl (wC ca ad σ1) H1 → va_S A H0 H1 locs1 → W p l e R s m args below meth c H1 locs1 cells slots Q (F0 m (pc + 3) ls rest)) : W p l e R s m args below meth c H locs cells slots Q (F0 m pc ls (.int v :: .ref (ad (9 + n)) :: rest)) := by
  subst e1
  exact pt_pN S hin tyX8_ok nmX8 hK hP (hDa σ) hS (9 + n) (pt_w8 hn ca ad σ) rfl 6 (by decide) hlink rfl rfl rfl (Nat.le_of_ble_eq_true rfl) (pt_w8_6 hn ca ad σ v) hdg kk
theorem gf_X8_7 {n : Nat} (hn : n < 6) (S : CallFix p m c cc nL s args Ts own) (hin : ∀ w ∈ wsX80, w ∈ Ts) (hK : pt_KK D (tysC ca) s) (hP : va_P D vwCl (wC ca ad σ) H) (hlink : (Cond.fieldLink own index "PackThreads$Worker" "interrupted" "Z").before args s = true) (hdg : decode cc pc = .ok (.getfield index, 3)) (kk : W p l e R s m args below meth c H locs cells slots Q (F0 m (pc + 3) ls (.int (σ (9 + n) 7) :: rest))) : W p l e R s m args below meth c H locs cells slots Q (F0 m pc ls (.ref (ad (9 + n)) :: rest)) :=
  pt_g S hin hK hP (9 + n) (pt_w8 hn ca ad σ) rfl 7 (by decide) hlink rfl hdg kk
theorem pf_X8_7 {n : Nat} (hn : n < 6) (S : CallFix p m c cc nL s args Ts own) (hin : ∀ w ∈ wsX80, w ∈ Ts) (hK : pt_KK D (tysC ca) s) (hP : va_P D vwCl (wC ca ad σ) H) (hDa : ∀ σ, va_D A (wC ca ad σ)) (hS : va_S A H0 H locs) (hlink : (Cond.fieldLink own index "PackThreads$Worker" "interrupted" "Z").before args s = true) (hz : v = 0 ∨ v = 1) (e1 : σ1 = (pt_put σ (9 + n) 7 v)) (hdg : decode cc pc = .ok (.putfield index, 3)) (kk : ∀ (H1 : Heap) (locs1 : List Loc), va_P D vwCl (wC ca ad σ1) H1 → va_S A H0 H1 locs1 → W p l e R s m args below meth c H1 locs1 cells slots Q (F0 m (pc + 3) ls rest)) : W p l e R s m args below meth c H locs cells slots Q (F0 m pc ls (.int v :: .ref (ad (9 + n)) :: rest)) := by
  subst e1
  exact pt_p S hin tyX8_ok nmX8 hK hP (hDa σ) hS (9 + n) (pt_w8 hn ca ad σ) rfl 7 (by decide) hlink rfl (by rcases hz with rfl | rfl <;> rfl) (by rcases hz with rfl | rfl <;> rfl) (Nat.le_of_ble_eq_true rfl) (pt_w8_7 hn ca ad σ v) hdg kk
theorem gfN_X8_7 {n : Nat} (hn : n < 6) (S : CallFix p m c cc nL s args Ts own) (hin : ∀ w ∈ wsX80, w ∈ Ts) (hK : pt_KK D (tysC ca) s) (hP : va_P D vwCl (wC ca ad σ) H) (hlink : (own, index, "PackThreads$Worker", "interrupted", "Z", "PackThreads") ∈ pt_nf) (hdg : decode cc pc = .ok (.getfield index, 3)) (kk : W p l e R s m args below meth c H locs cells slots Q (F0 m (pc + 3) ls (.int (σ (9 + n) 7) :: rest))) : W p l e R s m args below meth c H locs cells slots Q (F0 m pc ls (.ref (ad (9 + n)) :: rest)) :=
  pt_gN S hin hK hP (9 + n) (pt_w8 hn ca ad σ) rfl 7 (by decide) hlink rfl hdg kk
theorem pfN_X8_7 {n : Nat} (hn : n < 6) (S : CallFix p m c cc nL s args Ts own) (hin : ∀ w ∈ wsX80, w ∈ Ts) (hK : pt_KK D (tysC ca) s) (hP : va_P D vwCl (wC ca ad σ) H) (hDa : ∀ σ, va_D A (wC ca ad σ)) (hS : va_S A H0 H locs) (hlink : (own, index, "PackThreads$Worker", "interrupted", "Z", "PackThreads") ∈ pt_nf) (hz : v = 0 ∨ v = 1) (e1 : σ1 = (pt_put σ (9 + n) 7 v)) (hdg : decode cc pc = .ok (.putfield index, 3)) (kk : ∀ (H1 : Heap) (locs1 : List Loc), va_P D vwCl (wC ca ad σ1) H1 → va_S A H0 H1 locs1 → W p l e R s m args below meth c H1 locs1 cells slots Q (F0 m (pc + 3) ls rest)) : W p l e R s m args below meth c H locs cells slots Q (F0 m pc ls (.int v :: .ref (ad (9 + n)) :: rest)) := by
  subst e1
  exact pt_pN S hin tyX8_ok nmX8 hK hP (hDa σ) hS (9 + n) (pt_w8 hn ca ad σ) rfl 7 (by decide) hlink rfl (by rcases hz with rfl | rfl <;> rfl) (by rcases hz with rfl | rfl <;> rfl) (Nat.le_of_ble_eq_true rfl) (pt_w8_7 hn ca ad σ v) hdg kk
theorem ln_C_15 (S : CallFix p m c cc nL s args Ts own) (hK : pt_KK D (tysC ca) s) (hP : va_P D vwCl (wC ca ad σ) H) (hdg : decode cc pc = .ok (.arraylength, 1)) (kk : W p l e R s m args below meth c H locs cells slots Q (F0 m (pc + 1) ls (.int 160 :: rest))) : W p l e R s m args below meth c H locs cells slots Q (F0 m pc ls (.ref (ad 15) :: rest)) :=
  pt_len S hK hP 15 0 rfl rfl (v := 160) (by decide) hdg kk
theorem ld_C_15 (S : CallFix p m c cc nL s args Ts own) (hK : pt_KK D (tysC ca) s) (hP : va_P D vwCl (wC ca ad σ) H) (hi : pt_in i 160) (hdg : decode cc pc = .ok (.iaload, 1)) (kk : W p l e R s m args below meth c H locs cells slots Q (F0 m (pc + 1) ls (.int (σ 15 i.toNatClampNeg) :: rest))) : W p l e R s m args below meth c H locs cells slots Q (F0 m pc ls (.int i :: .ref (ad 15) :: rest)) :=
  pt_ild S hK hP 15 0 rfl rfl hi hdg kk
theorem st_C_15 (S : CallFix p m c cc nL s args Ts own) (hK : pt_KK D (tysC ca) s) (hP : va_P D vwCl (wC ca ad σ) H) (hDa : ∀ σ, va_D A (wC ca ad σ)) (hS : va_S A H0 H locs) (hi : pt_in i 160) (e1 : σ1 = pt_put σ 15 i.toNatClampNeg v) (hdg : decode cc pc = .ok (.iastore, 1)) (kk : ∀ (H1 : Heap) (locs1 : List Loc), va_P D vwCl (wC ca ad σ1) H1 → va_S A H0 H1 locs1 → W p l e R s m args below meth c H1 locs1 cells slots Q (F0 m (pc + 1) ls rest)) : W p l e R s m args below meth c H locs cells slots Q (F0 m pc ls (.int v :: .int i :: .ref (ad 15) :: rest)) := by
  subst e1
  exact pt_ist S hK hP (hDa σ) hS 15 0 rfl rfl hi rfl hdg kk
theorem ln_C_16 (S : CallFix p m c cc nL s args Ts own) (hK : pt_KK D (tysC ca) s) (hP : va_P D vwCl (wC ca ad σ) H) (hdg : decode cc pc = .ok (.arraylength, 1)) (kk : W p l e R s m args below meth c H locs cells slots Q (F0 m (pc + 1) ls (.int 40 :: rest))) : W p l e R s m args below meth c H locs cells slots Q (F0 m pc ls (.ref (ad 16) :: rest)) :=
  pt_len S hK hP 16 1 rfl rfl (v := 40) (by decide) hdg kk
theorem ld_C_16 (S : CallFix p m c cc nL s args Ts own) (hK : pt_KK D (tysC ca) s) (hP : va_P D vwCl (wC ca ad σ) H) (hi : pt_in i 40) (hdg : decode cc pc = .ok (.iaload, 1)) (kk : W p l e R s m args below meth c H locs cells slots Q (F0 m (pc + 1) ls (.int (σ 16 i.toNatClampNeg) :: rest))) : W p l e R s m args below meth c H locs cells slots Q (F0 m pc ls (.int i :: .ref (ad 16) :: rest)) :=
  pt_ild S hK hP 16 1 rfl rfl hi hdg kk
theorem st_C_16 (S : CallFix p m c cc nL s args Ts own) (hK : pt_KK D (tysC ca) s) (hP : va_P D vwCl (wC ca ad σ) H) (hDa : ∀ σ, va_D A (wC ca ad σ)) (hS : va_S A H0 H locs) (hi : pt_in i 40) (e1 : σ1 = pt_put σ 16 i.toNatClampNeg v) (hdg : decode cc pc = .ok (.iastore, 1)) (kk : ∀ (H1 : Heap) (locs1 : List Loc), va_P D vwCl (wC ca ad σ1) H1 → va_S A H0 H1 locs1 → W p l e R s m args below meth c H1 locs1 cells slots Q (F0 m (pc + 1) ls rest)) : W p l e R s m args below meth c H locs cells slots Q (F0 m pc ls (.int v :: .int i :: .ref (ad 16) :: rest)) := by
  subst e1
  exact pt_ist S hK hP (hDa σ) hS 16 1 rfl rfl hi rfl hdg kk
theorem ln_C_17 (S : CallFix p m c cc nL s args Ts own) (hK : pt_KK D (tysC ca) s) (hP : va_P D vwCl (wC ca ad σ) H) (hdg : decode cc pc = .ok (.arraylength, 1)) (kk : W p l e R s m args below meth c H locs cells slots Q (F0 m (pc + 1) ls (.int 40 :: rest))) : W p l e R s m args below meth c H locs cells slots Q (F0 m pc ls (.ref (ad 17) :: rest)) :=
  pt_len S hK hP 17 2 rfl rfl (v := 40) (by decide) hdg kk
theorem ld_C_17 (S : CallFix p m c cc nL s args Ts own) (hK : pt_KK D (tysC ca) s) (hP : va_P D vwCl (wC ca ad σ) H) (hi : pt_in i 40) (hdg : decode cc pc = .ok (.iaload, 1)) (kk : W p l e R s m args below meth c H locs cells slots Q (F0 m (pc + 1) ls (.int (σ 17 i.toNatClampNeg) :: rest))) : W p l e R s m args below meth c H locs cells slots Q (F0 m pc ls (.int i :: .ref (ad 17) :: rest)) :=
  pt_ild S hK hP 17 2 rfl rfl hi hdg kk
theorem st_C_17 (S : CallFix p m c cc nL s args Ts own) (hK : pt_KK D (tysC ca) s) (hP : va_P D vwCl (wC ca ad σ) H) (hDa : ∀ σ, va_D A (wC ca ad σ)) (hS : va_S A H0 H locs) (hi : pt_in i 40) (e1 : σ1 = pt_put σ 17 i.toNatClampNeg v) (hdg : decode cc pc = .ok (.iastore, 1)) (kk : ∀ (H1 : Heap) (locs1 : List Loc), va_P D vwCl (wC ca ad σ1) H1 → va_S A H0 H1 locs1 → W p l e R s m args below meth c H1 locs1 cells slots Q (F0 m (pc + 1) ls rest)) : W p l e R s m args below meth c H locs cells slots Q (F0 m pc ls (.int v :: .int i :: .ref (ad 17) :: rest)) := by
  subst e1
  exact pt_ist S hK hP (hDa σ) hS 17 2 rfl rfl hi rfl hdg kk
theorem ln_C_18 (S : CallFix p m c cc nL s args Ts own) (hK : pt_KK D (tysC ca) s) (hP : va_P D vwCl (wC ca ad σ) H) (hdg : decode cc pc = .ok (.arraylength, 1)) (kk : W p l e R s m args below meth c H locs cells slots Q (F0 m (pc + 1) ls (.int 40 :: rest))) : W p l e R s m args below meth c H locs cells slots Q (F0 m pc ls (.ref (ad 18) :: rest)) :=
  pt_len S hK hP 18 3 rfl rfl (v := 40) (by decide) hdg kk
theorem ld_C_18 (S : CallFix p m c cc nL s args Ts own) (hK : pt_KK D (tysC ca) s) (hP : va_P D vwCl (wC ca ad σ) H) (hi : pt_in i 40) (hdg : decode cc pc = .ok (.baload, 1)) (kk : W p l e R s m args below meth c H locs cells slots Q (F0 m (pc + 1) ls (.int (σ 18 i.toNatClampNeg) :: rest))) : W p l e R s m args below meth c H locs cells slots Q (F0 m pc ls (.int i :: .ref (ad 18) :: rest)) :=
  pt_zld S hK hP 18 3 rfl rfl hi hdg kk
theorem st_C_18 (S : CallFix p m c cc nL s args Ts own) (hK : pt_KK D (tysC ca) s) (hP : va_P D vwCl (wC ca ad σ) H) (hDa : ∀ σ, va_D A (wC ca ad σ)) (hS : va_S A H0 H locs) (hi : pt_in i 40) (e1 : σ1 = pt_put σ 18 i.toNatClampNeg (vp_nar .boolean v)) (hdg : decode cc pc = .ok (.bastore, 1)) (kk : ∀ (H1 : Heap) (locs1 : List Loc), va_P D vwCl (wC ca ad σ1) H1 → va_S A H0 H1 locs1 → W p l e R s m args below meth c H1 locs1 cells slots Q (F0 m (pc + 1) ls rest)) : W p l e R s m args below meth c H locs cells slots Q (F0 m pc ls (.int v :: .int i :: .ref (ad 18) :: rest)) := by
  subst e1
  exact pt_zst S hK hP (hDa σ) hS 18 3 rfl rfl hi rfl hdg kk
theorem ln_C_19 (S : CallFix p m c cc nL s args Ts own) (hK : pt_KK D (tysC ca) s) (hP : va_P D vwCl (wC ca ad σ) H) (hdg : decode cc pc = .ok (.arraylength, 1)) (kk : W p l e R s m args below meth c H locs cells slots Q (F0 m (pc + 1) ls (.int 240 :: rest))) : W p l e R s m args below meth c H locs cells slots Q (F0 m pc ls (.ref (ad 19) :: rest)) :=
  pt_len S hK hP 19 4 rfl rfl (v := 240) (by decide) hdg kk
theorem ld_C_19 (S : CallFix p m c cc nL s args Ts own) (hK : pt_KK D (tysC ca) s) (hP : va_P D vwCl (wC ca ad σ) H) (hi : pt_in i 240) (hdg : decode cc pc = .ok (.iaload, 1)) (kk : W p l e R s m args below meth c H locs cells slots Q (F0 m (pc + 1) ls (.int (σ 19 i.toNatClampNeg) :: rest))) : W p l e R s m args below meth c H locs cells slots Q (F0 m pc ls (.int i :: .ref (ad 19) :: rest)) :=
  pt_ild S hK hP 19 4 rfl rfl hi hdg kk
theorem st_C_19 (S : CallFix p m c cc nL s args Ts own) (hK : pt_KK D (tysC ca) s) (hP : va_P D vwCl (wC ca ad σ) H) (hDa : ∀ σ, va_D A (wC ca ad σ)) (hS : va_S A H0 H locs) (hi : pt_in i 240) (e1 : σ1 = pt_put σ 19 i.toNatClampNeg v) (hdg : decode cc pc = .ok (.iastore, 1)) (kk : ∀ (H1 : Heap) (locs1 : List Loc), va_P D vwCl (wC ca ad σ1) H1 → va_S A H0 H1 locs1 → W p l e R s m args below meth c H1 locs1 cells slots Q (F0 m (pc + 1) ls rest)) : W p l e R s m args below meth c H locs cells slots Q (F0 m pc ls (.int v :: .int i :: .ref (ad 19) :: rest)) := by
  subst e1
  exact pt_ist S hK hP (hDa σ) hS 19 4 rfl rfl hi rfl hdg kk
theorem ln_C_20 (S : CallFix p m c cc nL s args Ts own) (hK : pt_KK D (tysC ca) s) (hP : va_P D vwCl (wC ca ad σ) H) (hdg : decode cc pc = .ok (.arraylength, 1)) (kk : W p l e R s m args below meth c H locs cells slots Q (F0 m (pc + 1) ls (.int 40 :: rest))) : W p l e R s m args below meth c H locs cells slots Q (F0 m pc ls (.ref (ad 20) :: rest)) :=
  pt_len S hK hP 20 5 rfl rfl (v := 40) (by decide) hdg kk
theorem ld_C_20 (S : CallFix p m c cc nL s args Ts own) (hK : pt_KK D (tysC ca) s) (hP : va_P D vwCl (wC ca ad σ) H) (hi : pt_in i 40) (hdg : decode cc pc = .ok (.iaload, 1)) (kk : W p l e R s m args below meth c H locs cells slots Q (F0 m (pc + 1) ls (.int (σ 20 i.toNatClampNeg) :: rest))) : W p l e R s m args below meth c H locs cells slots Q (F0 m pc ls (.int i :: .ref (ad 20) :: rest)) :=
  pt_ild S hK hP 20 5 rfl rfl hi hdg kk
theorem st_C_20 (S : CallFix p m c cc nL s args Ts own) (hK : pt_KK D (tysC ca) s) (hP : va_P D vwCl (wC ca ad σ) H) (hDa : ∀ σ, va_D A (wC ca ad σ)) (hS : va_S A H0 H locs) (hi : pt_in i 40) (e1 : σ1 = pt_put σ 20 i.toNatClampNeg v) (hdg : decode cc pc = .ok (.iastore, 1)) (kk : ∀ (H1 : Heap) (locs1 : List Loc), va_P D vwCl (wC ca ad σ1) H1 → va_S A H0 H1 locs1 → W p l e R s m args below meth c H1 locs1 cells slots Q (F0 m (pc + 1) ls rest)) : W p l e R s m args below meth c H locs cells slots Q (F0 m pc ls (.int v :: .int i :: .ref (ad 20) :: rest)) := by
  subst e1
  exact pt_ist S hK hP (hDa σ) hS 20 5 rfl rfl hi rfl hdg kk
theorem ln_C_21 (S : CallFix p m c cc nL s args Ts own) (hK : pt_KK D (tysC ca) s) (hP : va_P D vwCl (wC ca ad σ) H) (hdg : decode cc pc = .ok (.arraylength, 1)) (kk : W p l e R s m args below meth c H locs cells slots Q (F0 m (pc + 1) ls (.int 40 :: rest))) : W p l e R s m args below meth c H locs cells slots Q (F0 m pc ls (.ref (ad 21) :: rest)) :=
  pt_len S hK hP 21 6 rfl rfl (v := 40) (by decide) hdg kk
theorem ld_C_21 (S : CallFix p m c cc nL s args Ts own) (hK : pt_KK D (tysC ca) s) (hP : va_P D vwCl (wC ca ad σ) H) (hi : pt_in i 40) (hdg : decode cc pc = .ok (.iaload, 1)) (kk : W p l e R s m args below meth c H locs cells slots Q (F0 m (pc + 1) ls (.int (σ 21 i.toNatClampNeg) :: rest))) : W p l e R s m args below meth c H locs cells slots Q (F0 m pc ls (.int i :: .ref (ad 21) :: rest)) :=
  pt_ild S hK hP 21 6 rfl rfl hi hdg kk
theorem st_C_21 (S : CallFix p m c cc nL s args Ts own) (hK : pt_KK D (tysC ca) s) (hP : va_P D vwCl (wC ca ad σ) H) (hDa : ∀ σ, va_D A (wC ca ad σ)) (hS : va_S A H0 H locs) (hi : pt_in i 40) (e1 : σ1 = pt_put σ 21 i.toNatClampNeg v) (hdg : decode cc pc = .ok (.iastore, 1)) (kk : ∀ (H1 : Heap) (locs1 : List Loc), va_P D vwCl (wC ca ad σ1) H1 → va_S A H0 H1 locs1 → W p l e R s m args below meth c H1 locs1 cells slots Q (F0 m (pc + 1) ls rest)) : W p l e R s m args below meth c H locs cells slots Q (F0 m pc ls (.int v :: .int i :: .ref (ad 21) :: rest)) := by
  subst e1
  exact pt_ist S hK hP (hDa σ) hS 21 6 rfl rfl hi rfl hdg kk
theorem ln_C_22 (S : CallFix p m c cc nL s args Ts own) (hK : pt_KK D (tysC ca) s) (hP : va_P D vwCl (wC ca ad σ) H) (hdg : decode cc pc = .ok (.arraylength, 1)) (kk : W p l e R s m args below meth c H locs cells slots Q (F0 m (pc + 1) ls (.int 6 :: rest))) : W p l e R s m args below meth c H locs cells slots Q (F0 m pc ls (.ref (ad 22) :: rest)) :=
  pt_len S hK hP 22 7 rfl rfl (v := 6) (by decide) hdg kk
theorem ld_C_22 (S : CallFix p m c cc nL s args Ts own) (hK : pt_KK D (tysC ca) s) (hP : va_P D vwCl (wC ca ad σ) H) (hi : pt_in i 6) (hdg : decode cc pc = .ok (.aaload, 1)) (kk : W p l e R s m args below meth c H locs cells slots Q (F0 m (pc + 1) ls (.ref (ad (9 + i.toNatClampNeg)) :: rest))) : W p l e R s m args below meth c H locs cells slots Q (F0 m pc ls (.int i :: .ref (ad 22) :: rest)) :=
  pt_ald S hK hP 22 7 rfl rfl hi rfl hdg kk
theorem ln_C_23 (S : CallFix p m c cc nL s args Ts own) (hK : pt_KK D (tysC ca) s) (hP : va_P D vwCl (wC ca ad σ) H) (hdg : decode cc pc = .ok (.arraylength, 1)) (kk : W p l e R s m args below meth c H locs cells slots Q (F0 m (pc + 1) ls (.int 6 :: rest))) : W p l e R s m args below meth c H locs cells slots Q (F0 m pc ls (.ref (ad 23) :: rest)) :=
  pt_len S hK hP 23 8 rfl rfl (v := 6) (by decide) hdg kk
theorem ld_C_23 (S : CallFix p m c cc nL s args Ts own) (hK : pt_KK D (tysC ca) s) (hP : va_P D vwCl (wC ca ad σ) H) (hi : pt_in i 6) (hdg : decode cc pc = .ok (.aaload, 1)) (kk : W p l e R s m args below meth c H locs cells slots Q (F0 m (pc + 1) ls (va_rf (pt_ln ad (σ 23 i.toNatClampNeg)) :: rest))) : W p l e R s m args below meth c H locs cells slots Q (F0 m pc ls (.int i :: .ref (ad 23) :: rest)) :=
  pt_ald S hK hP 23 8 rfl rfl hi rfl hdg kk
theorem st_C_23 (S : CallFix p m c cc nL s args Ts own) (hK : pt_KK D (tysC ca) s) (hP : va_P D vwCl (wC ca ad σ) H) (hDa : ∀ σ, va_D A (wC ca ad σ)) (hS : va_S A H0 H locs) (hi : pt_in i 6) (e1 : σ1 = pt_put σ 23 i.toNatClampNeg v) (hdg : decode cc pc = .ok (.aastore, 1)) (kk : ∀ (H1 : Heap) (locs1 : List Loc), va_P D vwCl (wC ca ad σ1) H1 → va_S A H0 H1 locs1 → W p l e R s m args below meth c H1 locs1 cells slots Q (F0 m (pc + 1) ls rest)) : W p l e R s m args below meth c H locs cells slots Q (F0 m pc ls (va_rf (pt_ln ad v) :: .int i :: .ref (ad 23) :: rest)) := by
  subst e1
  by_cases hv : pt_iw v
  · have hx := pt_lnW ad hv
    rw [hx]
    refine va_astq S.1 S.2.1 hK.1 hP (hDa σ) hS 23 8 (9 + v.toNatClampNeg) 8 rfl rfl (pt_w8 (pt_in_lt hv) ca ad σ) (r := (RX8, TX8, 8)) rfl hi hdg (fun H1 locs1 hP1 _ hS1 => kk H1 locs1 ?_ hS1)
    rw [← pt_set23, hx]; exact hP1
  · have hx := pt_lnN ad hv
    rw [hx]
    refine va_astqN S.1 S.2.1 hK.1 hP (hDa σ) hS 23 8 (C := "PackThreads$Worker") rfl rfl hi hdg (fun H1 locs1 hP1 _ hS1 => kk H1 locs1 ?_ hS1)
    rw [← pt_set23, hx]; exact hP1
theorem ln_C_24 (S : CallFix p m c cc nL s args Ts own) (hK : pt_KK D (tysC ca) s) (hP : va_P D vwCl (wC ca ad σ) H) (hdg : decode cc pc = .ok (.arraylength, 1)) (kk : W p l e R s m args below meth c H locs cells slots Q (F0 m (pc + 1) ls (.int 40 :: rest))) : W p l e R s m args below meth c H locs cells slots Q (F0 m pc ls (.ref (ad 24) :: rest)) :=
  pt_len S hK hP 24 9 rfl rfl (v := 40) (by decide) hdg kk
theorem ld_C_24 (S : CallFix p m c cc nL s args Ts own) (hK : pt_KK D (tysC ca) s) (hP : va_P D vwCl (wC ca ad σ) H) (hi : pt_in i 40) (hdg : decode cc pc = .ok (.baload, 1)) (kk : W p l e R s m args below meth c H locs cells slots Q (F0 m (pc + 1) ls (.int (σ 24 i.toNatClampNeg) :: rest))) : W p l e R s m args below meth c H locs cells slots Q (F0 m pc ls (.int i :: .ref (ad 24) :: rest)) :=
  pt_zld S hK hP 24 9 rfl rfl hi hdg kk
theorem st_C_24 (S : CallFix p m c cc nL s args Ts own) (hK : pt_KK D (tysC ca) s) (hP : va_P D vwCl (wC ca ad σ) H) (hDa : ∀ σ, va_D A (wC ca ad σ)) (hS : va_S A H0 H locs) (hi : pt_in i 40) (e1 : σ1 = pt_put σ 24 i.toNatClampNeg (vp_nar .boolean v)) (hdg : decode cc pc = .ok (.bastore, 1)) (kk : ∀ (H1 : Heap) (locs1 : List Loc), va_P D vwCl (wC ca ad σ1) H1 → va_S A H0 H1 locs1 → W p l e R s m args below meth c H1 locs1 cells slots Q (F0 m (pc + 1) ls rest)) : W p l e R s m args below meth c H locs cells slots Q (F0 m pc ls (.int v :: .int i :: .ref (ad 24) :: rest)) := by
  subst e1
  exact pt_zst S hK hP (hDa σ) hS 24 9 rfl rfl hi rfl hdg kk
theorem ln_C_25 (S : CallFix p m c cc nL s args Ts own) (hK : pt_KK D (tysC ca) s) (hP : va_P D vwCl (wC ca ad σ) H) (hdg : decode cc pc = .ok (.arraylength, 1)) (kk : W p l e R s m args below meth c H locs cells slots Q (F0 m (pc + 1) ls (.int 40 :: rest))) : W p l e R s m args below meth c H locs cells slots Q (F0 m pc ls (.ref (ad 25) :: rest)) :=
  pt_len S hK hP 25 10 rfl rfl (v := 40) (by decide) hdg kk
theorem ld_C_25 (S : CallFix p m c cc nL s args Ts own) (hK : pt_KK D (tysC ca) s) (hP : va_P D vwCl (wC ca ad σ) H) (hi : pt_in i 40) (hdg : decode cc pc = .ok (.baload, 1)) (kk : W p l e R s m args below meth c H locs cells slots Q (F0 m (pc + 1) ls (.int (σ 25 i.toNatClampNeg) :: rest))) : W p l e R s m args below meth c H locs cells slots Q (F0 m pc ls (.int i :: .ref (ad 25) :: rest)) :=
  pt_zld S hK hP 25 10 rfl rfl hi hdg kk
theorem st_C_25 (S : CallFix p m c cc nL s args Ts own) (hK : pt_KK D (tysC ca) s) (hP : va_P D vwCl (wC ca ad σ) H) (hDa : ∀ σ, va_D A (wC ca ad σ)) (hS : va_S A H0 H locs) (hi : pt_in i 40) (e1 : σ1 = pt_put σ 25 i.toNatClampNeg (vp_nar .boolean v)) (hdg : decode cc pc = .ok (.bastore, 1)) (kk : ∀ (H1 : Heap) (locs1 : List Loc), va_P D vwCl (wC ca ad σ1) H1 → va_S A H0 H1 locs1 → W p l e R s m args below meth c H1 locs1 cells slots Q (F0 m (pc + 1) ls rest)) : W p l e R s m args below meth c H locs cells slots Q (F0 m pc ls (.int v :: .int i :: .ref (ad 25) :: rest)) := by
  subst e1
  exact pt_zst S hK hP (hDa σ) hS 25 10 rfl rfl hi rfl hdg kk
theorem ln_C_26 (S : CallFix p m c cc nL s args Ts own) (hK : pt_KK D (tysC ca) s) (hP : va_P D vwCl (wC ca ad σ) H) (hdg : decode cc pc = .ok (.arraylength, 1)) (kk : W p l e R s m args below meth c H locs cells slots Q (F0 m (pc + 1) ls (.int 40 :: rest))) : W p l e R s m args below meth c H locs cells slots Q (F0 m pc ls (.ref (ad 26) :: rest)) :=
  pt_len S hK hP 26 11 rfl rfl (v := 40) (by decide) hdg kk
theorem ld_C_26 (S : CallFix p m c cc nL s args Ts own) (hK : pt_KK D (tysC ca) s) (hP : va_P D vwCl (wC ca ad σ) H) (hi : pt_in i 40) (hdg : decode cc pc = .ok (.iaload, 1)) (kk : W p l e R s m args below meth c H locs cells slots Q (F0 m (pc + 1) ls (.int (σ 26 i.toNatClampNeg) :: rest))) : W p l e R s m args below meth c H locs cells slots Q (F0 m pc ls (.int i :: .ref (ad 26) :: rest)) :=
  pt_ild S hK hP 26 11 rfl rfl hi hdg kk
theorem st_C_26 (S : CallFix p m c cc nL s args Ts own) (hK : pt_KK D (tysC ca) s) (hP : va_P D vwCl (wC ca ad σ) H) (hDa : ∀ σ, va_D A (wC ca ad σ)) (hS : va_S A H0 H locs) (hi : pt_in i 40) (e1 : σ1 = pt_put σ 26 i.toNatClampNeg v) (hdg : decode cc pc = .ok (.iastore, 1)) (kk : ∀ (H1 : Heap) (locs1 : List Loc), va_P D vwCl (wC ca ad σ1) H1 → va_S A H0 H1 locs1 → W p l e R s m args below meth c H1 locs1 cells slots Q (F0 m (pc + 1) ls rest)) : W p l e R s m args below meth c H locs cells slots Q (F0 m pc ls (.int v :: .int i :: .ref (ad 26) :: rest)) := by
  subst e1
  exact pt_ist S hK hP (hDa σ) hS 26 11 rfl rfl hi rfl hdg kk
theorem gf_X10_0 (S : CallFix p m c cc nL s args Ts own) (hin : ∀ w ∈ wsX100, w ∈ Ts) (hK : pt_KK D (tysR ca) s) (hP : va_P D vwCl (wR ca ad σ) H) (hlink : (Cond.fieldLink own index "PackThreadsModel" "text" "[I").before args s = true) (hdg : decode cc pc = .ok (.getfield index, 3)) (kk : W p l e R s m args below meth c H locs cells slots Q (F0 m (pc + 3) ls (.ref (ad 1) :: rest))) : W p l e R s m args below meth c H locs cells slots Q (F0 m pc ls (.ref (ad 0) :: rest)) :=
  pt_g S hin hK hP 0 rfl rfl 0 (by decide) hlink rfl hdg kk
theorem gf_X10_1 (S : CallFix p m c cc nL s args Ts own) (hin : ∀ w ∈ wsX100, w ∈ Ts) (hK : pt_KK D (tysR ca) s) (hP : va_P D vwCl (wR ca ad σ) H) (hlink : (Cond.fieldLink own index "PackThreadsModel" "size" "I").before args s = true) (hdg : decode cc pc = .ok (.getfield index, 3)) (kk : W p l e R s m args below meth c H locs cells slots Q (F0 m (pc + 3) ls (.int (σ 0 1) :: rest))) : W p l e R s m args below meth c H locs cells slots Q (F0 m pc ls (.ref (ad 0) :: rest)) :=
  pt_g S hin hK hP 0 rfl rfl 1 (by decide) hlink rfl hdg kk
theorem pf_X10_1 (S : CallFix p m c cc nL s args Ts own) (hin : ∀ w ∈ wsX100, w ∈ Ts) (hK : pt_KK D (tysR ca) s) (hP : va_P D vwCl (wR ca ad σ) H) (hDa : ∀ σ, va_D A (wR ca ad σ)) (hS : va_S A H0 H locs) (hlink : (Cond.fieldLink own index "PackThreadsModel" "size" "I").before args s = true) (e1 : σ1 = (pt_put σ 0 1 v)) (hdg : decode cc pc = .ok (.putfield index, 3)) (kk : ∀ (H1 : Heap) (locs1 : List Loc), va_P D vwCl (wR ca ad σ1) H1 → va_S A H0 H1 locs1 → W p l e R s m args below meth c H1 locs1 cells slots Q (F0 m (pc + 3) ls rest)) : W p l e R s m args below meth c H locs cells slots Q (F0 m pc ls (.int v :: .ref (ad 0) :: rest)) := by
  subst e1
  exact pt_p S hin tyX10_ok nmX10 hK hP (hDa σ) hS 0 rfl rfl 1 (by decide) hlink rfl rfl rfl (Nat.le_of_ble_eq_true rfl) rfl hdg kk
theorem gf_X10_2 (S : CallFix p m c cc nL s args Ts own) (hin : ∀ w ∈ wsX100, w ∈ Ts) (hK : pt_KK D (tysR ca) s) (hP : va_P D vwCl (wR ca ad σ) H) (hlink : (Cond.fieldLink own index "PackThreadsModel" "blockSize" "I").before args s = true) (hdg : decode cc pc = .ok (.getfield index, 3)) (kk : W p l e R s m args below meth c H locs cells slots Q (F0 m (pc + 3) ls (.int (σ 0 2) :: rest))) : W p l e R s m args below meth c H locs cells slots Q (F0 m pc ls (.ref (ad 0) :: rest)) :=
  pt_g S hin hK hP 0 rfl rfl 2 (by decide) hlink rfl hdg kk
theorem pf_X10_2 (S : CallFix p m c cc nL s args Ts own) (hin : ∀ w ∈ wsX100, w ∈ Ts) (hK : pt_KK D (tysR ca) s) (hP : va_P D vwCl (wR ca ad σ) H) (hDa : ∀ σ, va_D A (wR ca ad σ)) (hS : va_S A H0 H locs) (hlink : (Cond.fieldLink own index "PackThreadsModel" "blockSize" "I").before args s = true) (e1 : σ1 = (pt_put σ 0 2 v)) (hdg : decode cc pc = .ok (.putfield index, 3)) (kk : ∀ (H1 : Heap) (locs1 : List Loc), va_P D vwCl (wR ca ad σ1) H1 → va_S A H0 H1 locs1 → W p l e R s m args below meth c H1 locs1 cells slots Q (F0 m (pc + 3) ls rest)) : W p l e R s m args below meth c H locs cells slots Q (F0 m pc ls (.int v :: .ref (ad 0) :: rest)) := by
  subst e1
  exact pt_p S hin tyX10_ok nmX10 hK hP (hDa σ) hS 0 rfl rfl 2 (by decide) hlink rfl rfl rfl (Nat.le_of_ble_eq_true rfl) rfl hdg kk
theorem gf_X10_3 (S : CallFix p m c cc nL s args Ts own) (hin : ∀ w ∈ wsX100, w ∈ Ts) (hK : pt_KK D (tysR ca) s) (hP : va_P D vwCl (wR ca ad σ) H) (hlink : (Cond.fieldLink own index "PackThreadsModel" "window" "I").before args s = true) (hdg : decode cc pc = .ok (.getfield index, 3)) (kk : W p l e R s m args below meth c H locs cells slots Q (F0 m (pc + 3) ls (.int (σ 0 3) :: rest))) : W p l e R s m args below meth c H locs cells slots Q (F0 m pc ls (.ref (ad 0) :: rest)) :=
  pt_g S hin hK hP 0 rfl rfl 3 (by decide) hlink rfl hdg kk
theorem pf_X10_3 (S : CallFix p m c cc nL s args Ts own) (hin : ∀ w ∈ wsX100, w ∈ Ts) (hK : pt_KK D (tysR ca) s) (hP : va_P D vwCl (wR ca ad σ) H) (hDa : ∀ σ, va_D A (wR ca ad σ)) (hS : va_S A H0 H locs) (hlink : (Cond.fieldLink own index "PackThreadsModel" "window" "I").before args s = true) (e1 : σ1 = (pt_put σ 0 3 v)) (hdg : decode cc pc = .ok (.putfield index, 3)) (kk : ∀ (H1 : Heap) (locs1 : List Loc), va_P D vwCl (wR ca ad σ1) H1 → va_S A H0 H1 locs1 → W p l e R s m args below meth c H1 locs1 cells slots Q (F0 m (pc + 3) ls rest)) : W p l e R s m args below meth c H locs cells slots Q (F0 m pc ls (.int v :: .ref (ad 0) :: rest)) := by
  subst e1
  exact pt_p S hin tyX10_ok nmX10 hK hP (hDa σ) hS 0 rfl rfl 3 (by decide) hlink rfl rfl rfl (Nat.le_of_ble_eq_true rfl) rfl hdg kk
theorem gf_X10_4 (S : CallFix p m c cc nL s args Ts own) (hin : ∀ w ∈ wsX100, w ∈ Ts) (hK : pt_KK D (tysR ca) s) (hP : va_P D vwCl (wR ca ad σ) H) (hlink : (Cond.fieldLink own index "PackThreadsModel" "cells" "I").before args s = true) (hdg : decode cc pc = .ok (.getfield index, 3)) (kk : W p l e R s m args below meth c H locs cells slots Q (F0 m (pc + 3) ls (.int (σ 0 4) :: rest))) : W p l e R s m args below meth c H locs cells slots Q (F0 m pc ls (.ref (ad 0) :: rest)) :=
  pt_g S hin hK hP 0 rfl rfl 4 (by decide) hlink rfl hdg kk
theorem pf_X10_4 (S : CallFix p m c cc nL s args Ts own) (hin : ∀ w ∈ wsX100, w ∈ Ts) (hK : pt_KK D (tysR ca) s) (hP : va_P D vwCl (wR ca ad σ) H) (hDa : ∀ σ, va_D A (wR ca ad σ)) (hS : va_S A H0 H locs) (hlink : (Cond.fieldLink own index "PackThreadsModel" "cells" "I").before args s = true) (e1 : σ1 = (pt_put σ 0 4 v)) (hdg : decode cc pc = .ok (.putfield index, 3)) (kk : ∀ (H1 : Heap) (locs1 : List Loc), va_P D vwCl (wR ca ad σ1) H1 → va_S A H0 H1 locs1 → W p l e R s m args below meth c H1 locs1 cells slots Q (F0 m (pc + 3) ls rest)) : W p l e R s m args below meth c H locs cells slots Q (F0 m pc ls (.int v :: .ref (ad 0) :: rest)) := by
  subst e1
  exact pt_p S hin tyX10_ok nmX10 hK hP (hDa σ) hS 0 rfl rfl 4 (by decide) hlink rfl rfl rfl (Nat.le_of_ble_eq_true rfl) rfl hdg kk
theorem gf_X10_5 (S : CallFix p m c cc nL s args Ts own) (hin : ∀ w ∈ wsX100, w ∈ Ts) (hK : pt_KK D (tysR ca) s) (hP : va_P D vwCl (wR ca ad σ) H) (hlink : (Cond.fieldLink own index "PackThreadsModel" "most" "I").before args s = true) (hdg : decode cc pc = .ok (.getfield index, 3)) (kk : W p l e R s m args below meth c H locs cells slots Q (F0 m (pc + 3) ls (.int (σ 0 5) :: rest))) : W p l e R s m args below meth c H locs cells slots Q (F0 m pc ls (.ref (ad 0) :: rest)) :=
  pt_g S hin hK hP 0 rfl rfl 5 (by decide) hlink rfl hdg kk
theorem pf_X10_5 (S : CallFix p m c cc nL s args Ts own) (hin : ∀ w ∈ wsX100, w ∈ Ts) (hK : pt_KK D (tysR ca) s) (hP : va_P D vwCl (wR ca ad σ) H) (hDa : ∀ σ, va_D A (wR ca ad σ)) (hS : va_S A H0 H locs) (hlink : (Cond.fieldLink own index "PackThreadsModel" "most" "I").before args s = true) (e1 : σ1 = (pt_put σ 0 5 v)) (hdg : decode cc pc = .ok (.putfield index, 3)) (kk : ∀ (H1 : Heap) (locs1 : List Loc), va_P D vwCl (wR ca ad σ1) H1 → va_S A H0 H1 locs1 → W p l e R s m args below meth c H1 locs1 cells slots Q (F0 m (pc + 3) ls rest)) : W p l e R s m args below meth c H locs cells slots Q (F0 m pc ls (.int v :: .ref (ad 0) :: rest)) := by
  subst e1
  exact pt_p S hin tyX10_ok nmX10 hK hP (hDa σ) hS 0 rfl rfl 5 (by decide) hlink rfl rfl rfl (Nat.le_of_ble_eq_true rfl) rfl hdg kk
theorem gf_X10_6 (S : CallFix p m c cc nL s args Ts own) (hin : ∀ w ∈ wsX100, w ∈ Ts) (hK : pt_KK D (tysR ca) s) (hP : va_P D vwCl (wR ca ad σ) H) (hlink : (Cond.fieldLink own index "PackThreadsModel" "plantKind" "[I").before args s = true) (hdg : decode cc pc = .ok (.getfield index, 3)) (kk : W p l e R s m args below meth c H locs cells slots Q (F0 m (pc + 3) ls (.ref (ad 2) :: rest))) : W p l e R s m args below meth c H locs cells slots Q (F0 m pc ls (.ref (ad 0) :: rest)) :=
  pt_g S hin hK hP 0 rfl rfl 6 (by decide) hlink rfl hdg kk
theorem gf_X10_7 (S : CallFix p m c cc nL s args Ts own) (hin : ∀ w ∈ wsX100, w ∈ Ts) (hK : pt_KK D (tysR ca) s) (hP : va_P D vwCl (wR ca ad σ) H) (hlink : (Cond.fieldLink own index "PackThreadsModel" "plantStep" "[I").before args s = true) (hdg : decode cc pc = .ok (.getfield index, 3)) (kk : W p l e R s m args below meth c H locs cells slots Q (F0 m (pc + 3) ls (.ref (ad 3) :: rest))) : W p l e R s m args below meth c H locs cells slots Q (F0 m pc ls (.ref (ad 0) :: rest)) :=
  pt_g S hin hK hP 0 rfl rfl 7 (by decide) hlink rfl hdg kk
theorem gf_X10_8 (S : CallFix p m c cc nL s args Ts own) (hin : ∀ w ∈ wsX100, w ∈ Ts) (hK : pt_KK D (tysR ca) s) (hP : va_P D vwCl (wR ca ad σ) H) (hlink : (Cond.fieldLink own index "PackThreadsModel" "plantTwice" "[Z").before args s = true) (hdg : decode cc pc = .ok (.getfield index, 3)) (kk : W p l e R s m args below meth c H locs cells slots Q (F0 m (pc + 3) ls (.ref (ad 4) :: rest))) : W p l e R s m args below meth c H locs cells slots Q (F0 m pc ls (.ref (ad 0) :: rest)) :=
  pt_g S hin hK hP 0 rfl rfl 8 (by decide) hlink rfl hdg kk
theorem gf_X10_9 (S : CallFix p m c cc nL s args Ts own) (hin : ∀ w ∈ wsX100, w ∈ Ts) (hK : pt_KK D (tysR ca) s) (hP : va_P D vwCl (wR ca ad σ) H) (hlink : (Cond.fieldLink own index "PackThreadsModel" "isPacked" "Z").before args s = true) (hdg : decode cc pc = .ok (.getfield index, 3)) (kk : W p l e R s m args below meth c H locs cells slots Q (F0 m (pc + 3) ls (.int (σ 0 9) :: rest))) : W p l e R s m args below meth c H locs cells slots Q (F0 m pc ls (.ref (ad 0) :: rest)) :=
  pt_g S hin hK hP 0 rfl rfl 9 (by decide) hlink rfl hdg kk
theorem pf_X10_9 (S : CallFix p m c cc nL s args Ts own) (hin : ∀ w ∈ wsX100, w ∈ Ts) (hK : pt_KK D (tysR ca) s) (hP : va_P D vwCl (wR ca ad σ) H) (hDa : ∀ σ, va_D A (wR ca ad σ)) (hS : va_S A H0 H locs) (hlink : (Cond.fieldLink own index "PackThreadsModel" "isPacked" "Z").before args s = true) (hz : v = 0 ∨ v = 1) (e1 : σ1 = (pt_put σ 0 9 v)) (hdg : decode cc pc = .ok (.putfield index, 3)) (kk : ∀ (H1 : Heap) (locs1 : List Loc), va_P D vwCl (wR ca ad σ1) H1 → va_S A H0 H1 locs1 → W p l e R s m args below meth c H1 locs1 cells slots Q (F0 m (pc + 3) ls rest)) : W p l e R s m args below meth c H locs cells slots Q (F0 m pc ls (.int v :: .ref (ad 0) :: rest)) := by
  subst e1
  exact pt_p S hin tyX10_ok nmX10 hK hP (hDa σ) hS 0 rfl rfl 9 (by decide) hlink rfl (by rcases hz with rfl | rfl <;> rfl) (by rcases hz with rfl | rfl <;> rfl) (Nat.le_of_ble_eq_true rfl) rfl hdg kk
theorem gf_X10_10 (S : CallFix p m c cc nL s args Ts own) (hin : ∀ w ∈ wsX100, w ∈ Ts) (hK : pt_KK D (tysR ca) s) (hP : va_P D vwCl (wR ca ad σ) H) (hlink : (Cond.fieldLink own index "PackThreadsModel" "packed" "I").before args s = true) (hdg : decode cc pc = .ok (.getfield index, 3)) (kk : W p l e R s m args below meth c H locs cells slots Q (F0 m (pc + 3) ls (.int (σ 0 10) :: rest))) : W p l e R s m args below meth c H locs cells slots Q (F0 m pc ls (.ref (ad 0) :: rest)) :=
  pt_g S hin hK hP 0 rfl rfl 10 (by decide) hlink rfl hdg kk
theorem pf_X10_10 (S : CallFix p m c cc nL s args Ts own) (hin : ∀ w ∈ wsX100, w ∈ Ts) (hK : pt_KK D (tysR ca) s) (hP : va_P D vwCl (wR ca ad σ) H) (hDa : ∀ σ, va_D A (wR ca ad σ)) (hS : va_S A H0 H locs) (hlink : (Cond.fieldLink own index "PackThreadsModel" "packed" "I").before args s = true) (e1 : σ1 = (pt_put σ 0 10 v)) (hdg : decode cc pc = .ok (.putfield index, 3)) (kk : ∀ (H1 : Heap) (locs1 : List Loc), va_P D vwCl (wR ca ad σ1) H1 → va_S A H0 H1 locs1 → W p l e R s m args below meth c H1 locs1 cells slots Q (F0 m (pc + 3) ls rest)) : W p l e R s m args below meth c H locs cells slots Q (F0 m pc ls (.int v :: .ref (ad 0) :: rest)) := by
  subst e1
  exact pt_p S hin tyX10_ok nmX10 hK hP (hDa σ) hS 0 rfl rfl 10 (by decide) hlink rfl rfl rfl (Nat.le_of_ble_eq_true rfl) rfl hdg kk
theorem gf_X10_11 (S : CallFix p m c cc nL s args Ts own) (hin : ∀ w ∈ wsX100, w ∈ Ts) (hK : pt_KK D (tysR ca) s) (hP : va_P D vwCl (wR ca ad σ) H) (hlink : (Cond.fieldLink own index "PackThreadsModel" "pack" "[I").before args s = true) (hdg : decode cc pc = .ok (.getfield index, 3)) (kk : W p l e R s m args below meth c H locs cells slots Q (F0 m (pc + 3) ls (.ref (ad 5) :: rest))) : W p l e R s m args below meth c H locs cells slots Q (F0 m pc ls (.ref (ad 0) :: rest)) :=
  pt_g S hin hK hP 0 rfl rfl 11 (by decide) hlink rfl hdg kk
theorem gf_X10_12 (S : CallFix p m c cc nL s args Ts own) (hin : ∀ w ∈ wsX100, w ∈ Ts) (hK : pt_KK D (tysR ca) s) (hP : va_P D vwCl (wR ca ad σ) H) (hlink : (Cond.fieldLink own index "PackThreadsModel" "packEnd" "[I").before args s = true) (hdg : decode cc pc = .ok (.getfield index, 3)) (kk : W p l e R s m args below meth c H locs cells slots Q (F0 m (pc + 3) ls (.ref (ad 6) :: rest))) : W p l e R s m args below meth c H locs cells slots Q (F0 m pc ls (.ref (ad 0) :: rest)) :=
  pt_g S hin hK hP 0 rfl rfl 12 (by decide) hlink rfl hdg kk
theorem gf_X10_13 (S : CallFix p m c cc nL s args Ts own) (hin : ∀ w ∈ wsX100, w ∈ Ts) (hK : pt_KK D (tysR ca) s) (hP : va_P D vwCl (wR ca ad σ) H) (hlink : (Cond.fieldLink own index "PackThreadsModel" "tokens" "[I").before args s = true) (hdg : decode cc pc = .ok (.getfield index, 3)) (kk : W p l e R s m args below meth c H locs cells slots Q (F0 m (pc + 3) ls (.ref (ad 7) :: rest))) : W p l e R s m args below meth c H locs cells slots Q (F0 m pc ls (.ref (ad 0) :: rest)) :=
  pt_g S hin hK hP 0 rfl rfl 13 (by decide) hlink rfl hdg kk
theorem gf_X10_14 (S : CallFix p m c cc nL s args Ts own) (hin : ∀ w ∈ wsX100, w ∈ Ts) (hK : pt_KK D (tysR ca) s) (hP : va_P D vwCl (wR ca ad σ) H) (hlink : (Cond.fieldLink own index "PackThreadsModel" "isBegun" "Z").before args s = true) (hdg : decode cc pc = .ok (.getfield index, 3)) (kk : W p l e R s m args below meth c H locs cells slots Q (F0 m (pc + 3) ls (.int (σ 0 14) :: rest))) : W p l e R s m args below meth c H locs cells slots Q (F0 m pc ls (.ref (ad 0) :: rest)) :=
  pt_g S hin hK hP 0 rfl rfl 14 (by decide) hlink rfl hdg kk
theorem pf_X10_14 (S : CallFix p m c cc nL s args Ts own) (hin : ∀ w ∈ wsX100, w ∈ Ts) (hK : pt_KK D (tysR ca) s) (hP : va_P D vwCl (wR ca ad σ) H) (hDa : ∀ σ, va_D A (wR ca ad σ)) (hS : va_S A H0 H locs) (hlink : (Cond.fieldLink own index "PackThreadsModel" "isBegun" "Z").before args s = true) (hz : v = 0 ∨ v = 1) (e1 : σ1 = (pt_put σ 0 14 v)) (hdg : decode cc pc = .ok (.putfield index, 3)) (kk : ∀ (H1 : Heap) (locs1 : List Loc), va_P D vwCl (wR ca ad σ1) H1 → va_S A H0 H1 locs1 → W p l e R s m args below meth c H1 locs1 cells slots Q (F0 m (pc + 3) ls rest)) : W p l e R s m args below meth c H locs cells slots Q (F0 m pc ls (.int v :: .ref (ad 0) :: rest)) := by
  subst e1
  exact pt_p S hin tyX10_ok nmX10 hK hP (hDa σ) hS 0 rfl rfl 14 (by decide) hlink rfl (by rcases hz with rfl | rfl <;> rfl) (by rcases hz with rfl | rfl <;> rfl) (Nat.le_of_ble_eq_true rfl) rfl hdg kk
theorem gf_X10_15 (S : CallFix p m c cc nL s args Ts own) (hin : ∀ w ∈ wsX100, w ∈ Ts) (hK : pt_KK D (tysR ca) s) (hP : va_P D vwCl (wR ca ad σ) H) (hlink : (Cond.fieldLink own index "PackThreadsModel" "threads" "I").before args s = true) (hdg : decode cc pc = .ok (.getfield index, 3)) (kk : W p l e R s m args below meth c H locs cells slots Q (F0 m (pc + 3) ls (.int (σ 0 15) :: rest))) : W p l e R s m args below meth c H locs cells slots Q (F0 m pc ls (.ref (ad 0) :: rest)) :=
  pt_g S hin hK hP 0 rfl rfl 15 (by decide) hlink rfl hdg kk
theorem pf_X10_15 (S : CallFix p m c cc nL s args Ts own) (hin : ∀ w ∈ wsX100, w ∈ Ts) (hK : pt_KK D (tysR ca) s) (hP : va_P D vwCl (wR ca ad σ) H) (hDa : ∀ σ, va_D A (wR ca ad σ)) (hS : va_S A H0 H locs) (hlink : (Cond.fieldLink own index "PackThreadsModel" "threads" "I").before args s = true) (e1 : σ1 = (pt_put σ 0 15 v)) (hdg : decode cc pc = .ok (.putfield index, 3)) (kk : ∀ (H1 : Heap) (locs1 : List Loc), va_P D vwCl (wR ca ad σ1) H1 → va_S A H0 H1 locs1 → W p l e R s m args below meth c H1 locs1 cells slots Q (F0 m (pc + 3) ls rest)) : W p l e R s m args below meth c H locs cells slots Q (F0 m pc ls (.int v :: .ref (ad 0) :: rest)) := by
  subst e1
  exact pt_p S hin tyX10_ok nmX10 hK hP (hDa σ) hS 0 rfl rfl 15 (by decide) hlink rfl rfl rfl (Nat.le_of_ble_eq_true rfl) rfl hdg kk
theorem gf_X10_16 (S : CallFix p m c cc nL s args Ts own) (hin : ∀ w ∈ wsX100, w ∈ Ts) (hK : pt_KK D (tysR ca) s) (hP : va_P D vwCl (wR ca ad σ) H) (hlink : (Cond.fieldLink own index "PackThreadsModel" "blocks" "I").before args s = true) (hdg : decode cc pc = .ok (.getfield index, 3)) (kk : W p l e R s m args below meth c H locs cells slots Q (F0 m (pc + 3) ls (.int (σ 0 16) :: rest))) : W p l e R s m args below meth c H locs cells slots Q (F0 m pc ls (.ref (ad 0) :: rest)) :=
  pt_g S hin hK hP 0 rfl rfl 16 (by decide) hlink rfl hdg kk
theorem pf_X10_16 (S : CallFix p m c cc nL s args Ts own) (hin : ∀ w ∈ wsX100, w ∈ Ts) (hK : pt_KK D (tysR ca) s) (hP : va_P D vwCl (wR ca ad σ) H) (hDa : ∀ σ, va_D A (wR ca ad σ)) (hS : va_S A H0 H locs) (hlink : (Cond.fieldLink own index "PackThreadsModel" "blocks" "I").before args s = true) (e1 : σ1 = (pt_put σ 0 16 v)) (hdg : decode cc pc = .ok (.putfield index, 3)) (kk : ∀ (H1 : Heap) (locs1 : List Loc), va_P D vwCl (wR ca ad σ1) H1 → va_S A H0 H1 locs1 → W p l e R s m args below meth c H1 locs1 cells slots Q (F0 m (pc + 3) ls rest)) : W p l e R s m args below meth c H locs cells slots Q (F0 m pc ls (.int v :: .ref (ad 0) :: rest)) := by
  subst e1
  exact pt_p S hin tyX10_ok nmX10 hK hP (hDa σ) hS 0 rfl rfl 16 (by decide) hlink rfl rfl rfl (Nat.le_of_ble_eq_true rfl) rfl hdg kk
theorem gf_X10_17 (S : CallFix p m c cc nL s args Ts own) (hin : ∀ w ∈ wsX100, w ∈ Ts) (hK : pt_KK D (tysR ca) s) (hP : va_P D vwCl (wR ca ad σ) H) (hlink : (Cond.fieldLink own index "PackThreadsModel" "state" "[I").before args s = true) (hdg : decode cc pc = .ok (.getfield index, 3)) (kk : W p l e R s m args below meth c H locs cells slots Q (F0 m (pc + 3) ls (.ref (ad 8) :: rest))) : W p l e R s m args below meth c H locs cells slots Q (F0 m pc ls (.ref (ad 0) :: rest)) :=
  pt_g S hin hK hP 0 rfl rfl 17 (by decide) hlink rfl hdg kk
theorem gf_X10_18 (S : CallFix p m c cc nL s args Ts own) (hin : ∀ w ∈ wsX100, w ∈ Ts) (hK : pt_KK D (tysR ca) s) (hP : va_P D vwCl (wR ca ad σ) H) (hlink : (Cond.fieldLink own index "PackThreadsModel" "block" "[I").before args s = true) (hdg : decode cc pc = .ok (.getfield index, 3)) (kk : W p l e R s m args below meth c H locs cells slots Q (F0 m (pc + 3) ls (.ref (ad 9) :: rest))) : W p l e R s m args below meth c H locs cells slots Q (F0 m pc ls (.ref (ad 0) :: rest)) :=
  pt_g S hin hK hP 0 rfl rfl 18 (by decide) hlink rfl hdg kk
theorem gf_X10_19 (S : CallFix p m c cc nL s args Ts own) (hin : ∀ w ∈ wsX100, w ∈ Ts) (hK : pt_KK D (tysR ca) s) (hP : va_P D vwCl (wR ca ad σ) H) (hlink : (Cond.fieldLink own index "PackThreadsModel" "step" "[I").before args s = true) (hdg : decode cc pc = .ok (.getfield index, 3)) (kk : W p l e R s m args below meth c H locs cells slots Q (F0 m (pc + 3) ls (.ref (ad 10) :: rest))) : W p l e R s m args below meth c H locs cells slots Q (F0 m pc ls (.ref (ad 0) :: rest)) :=
  pt_g S hin hK hP 0 rfl rfl 19 (by decide) hlink rfl hdg kk
theorem gf_X10_20 (S : CallFix p m c cc nL s args Ts own) (hin : ∀ w ∈ wsX100, w ∈ Ts) (hK : pt_KK D (tysR ca) s) (hP : va_P D vwCl (wR ca ad σ) H) (hlink : (Cond.fieldLink own index "PackThreadsModel" "made" "[I").before args s = true) (hdg : decode cc pc = .ok (.getfield index, 3)) (kk : W p l e R s m args below meth c H locs cells slots Q (F0 m (pc + 3) ls (.ref (ad 11) :: rest))) : W p l e R s m args below meth c H locs cells slots Q (F0 m pc ls (.ref (ad 0) :: rest)) :=
  pt_g S hin hK hP 0 rfl rfl 20 (by decide) hlink rfl hdg kk
theorem gf_X10_21 (S : CallFix p m c cc nL s args Ts own) (hin : ∀ w ∈ wsX100, w ∈ Ts) (hK : pt_KK D (tysR ca) s) (hP : va_P D vwCl (wR ca ad σ) H) (hlink : (Cond.fieldLink own index "PackThreadsModel" "ended" "[I").before args s = true) (hdg : decode cc pc = .ok (.getfield index, 3)) (kk : W p l e R s m args below meth c H locs cells slots Q (F0 m (pc + 3) ls (.ref (ad 12) :: rest))) : W p l e R s m args below meth c H locs cells slots Q (F0 m pc ls (.ref (ad 0) :: rest)) :=
  pt_g S hin hK hP 0 rfl rfl 21 (by decide) hlink rfl hdg kk
theorem gf_X10_22 (S : CallFix p m c cc nL s args Ts own) (hin : ∀ w ∈ wsX100, w ∈ Ts) (hK : pt_KK D (tysR ca) s) (hP : va_P D vwCl (wR ca ad σ) H) (hlink : (Cond.fieldLink own index "PackThreadsModel" "isInterrupted" "[Z").before args s = true) (hdg : decode cc pc = .ok (.getfield index, 3)) (kk : W p l e R s m args below meth c H locs cells slots Q (F0 m (pc + 3) ls (.ref (ad 13) :: rest))) : W p l e R s m args below meth c H locs cells slots Q (F0 m pc ls (.ref (ad 0) :: rest)) :=
  pt_g S hin hK hP 0 rfl rfl 22 (by decide) hlink rfl hdg kk
theorem gf_X10_23 (S : CallFix p m c cc nL s args Ts own) (hin : ∀ w ∈ wsX100, w ∈ Ts) (hK : pt_KK D (tysR ca) s) (hP : va_P D vwCl (wR ca ad σ) H) (hlink : (Cond.fieldLink own index "PackThreadsModel" "latest" "I").before args s = true) (hdg : decode cc pc = .ok (.getfield index, 3)) (kk : W p l e R s m args below meth c H locs cells slots Q (F0 m (pc + 3) ls (.int (σ 0 23) :: rest))) : W p l e R s m args below meth c H locs cells slots Q (F0 m pc ls (.ref (ad 0) :: rest)) :=
  pt_g S hin hK hP 0 rfl rfl 23 (by decide) hlink rfl hdg kk
theorem pf_X10_23 (S : CallFix p m c cc nL s args Ts own) (hin : ∀ w ∈ wsX100, w ∈ Ts) (hK : pt_KK D (tysR ca) s) (hP : va_P D vwCl (wR ca ad σ) H) (hDa : ∀ σ, va_D A (wR ca ad σ)) (hS : va_S A H0 H locs) (hlink : (Cond.fieldLink own index "PackThreadsModel" "latest" "I").before args s = true) (e1 : σ1 = (pt_put σ 0 23 v)) (hdg : decode cc pc = .ok (.putfield index, 3)) (kk : ∀ (H1 : Heap) (locs1 : List Loc), va_P D vwCl (wR ca ad σ1) H1 → va_S A H0 H1 locs1 → W p l e R s m args below meth c H1 locs1 cells slots Q (F0 m (pc + 3) ls rest)) : W p l e R s m args below meth c H locs cells slots Q (F0 m pc ls (.int v :: .ref (ad 0) :: rest)) := by
  subst e1
  exact pt_p S hin tyX10_ok nmX10 hK hP (hDa σ) hS 0 rfl rfl 23 (by decide) hlink rfl rfl rfl (Nat.le_of_ble_eq_true rfl) rfl hdg kk
theorem gf_X10_24 (S : CallFix p m c cc nL s args Ts own) (hin : ∀ w ∈ wsX100, w ∈ Ts) (hK : pt_KK D (tysR ca) s) (hP : va_P D vwCl (wR ca ad σ) H) (hlink : (Cond.fieldLink own index "PackThreadsModel" "never" "I").before args s = true) (hdg : decode cc pc = .ok (.getfield index, 3)) (kk : W p l e R s m args below meth c H locs cells slots Q (F0 m (pc + 3) ls (.int (σ 0 24) :: rest))) : W p l e R s m args below meth c H locs cells slots Q (F0 m pc ls (.ref (ad 0) :: rest)) :=
  pt_g S hin hK hP 0 rfl rfl 24 (by decide) hlink rfl hdg kk
theorem pf_X10_24 (S : CallFix p m c cc nL s args Ts own) (hin : ∀ w ∈ wsX100, w ∈ Ts) (hK : pt_KK D (tysR ca) s) (hP : va_P D vwCl (wR ca ad σ) H) (hDa : ∀ σ, va_D A (wR ca ad σ)) (hS : va_S A H0 H locs) (hlink : (Cond.fieldLink own index "PackThreadsModel" "never" "I").before args s = true) (e1 : σ1 = (pt_put σ 0 24 v)) (hdg : decode cc pc = .ok (.putfield index, 3)) (kk : ∀ (H1 : Heap) (locs1 : List Loc), va_P D vwCl (wR ca ad σ1) H1 → va_S A H0 H1 locs1 → W p l e R s m args below meth c H1 locs1 cells slots Q (F0 m (pc + 3) ls rest)) : W p l e R s m args below meth c H locs cells slots Q (F0 m pc ls (.int v :: .ref (ad 0) :: rest)) := by
  subst e1
  exact pt_p S hin tyX10_ok nmX10 hK hP (hDa σ) hS 0 rfl rfl 24 (by decide) hlink rfl rfl rfl (Nat.le_of_ble_eq_true rfl) rfl hdg kk
theorem gf_X10_25 (S : CallFix p m c cc nL s args Ts own) (hin : ∀ w ∈ wsX100, w ∈ Ts) (hK : pt_KK D (tysR ca) s) (hP : va_P D vwCl (wR ca ad σ) H) (hlink : (Cond.fieldLink own index "PackThreadsModel" "hasFailed" "[Z").before args s = true) (hdg : decode cc pc = .ok (.getfield index, 3)) (kk : W p l e R s m args below meth c H locs cells slots Q (F0 m (pc + 3) ls (.ref (ad 14) :: rest))) : W p l e R s m args below meth c H locs cells slots Q (F0 m pc ls (.ref (ad 0) :: rest)) :=
  pt_g S hin hK hP 0 rfl rfl 25 (by decide) hlink rfl hdg kk
theorem gf_X10_26 (S : CallFix p m c cc nL s args Ts own) (hin : ∀ w ∈ wsX100, w ∈ Ts) (hK : pt_KK D (tysR ca) s) (hP : va_P D vwCl (wR ca ad σ) H) (hlink : (Cond.fieldLink own index "PackThreadsModel" "again" "[I").before args s = true) (hdg : decode cc pc = .ok (.getfield index, 3)) (kk : W p l e R s m args below meth c H locs cells slots Q (F0 m (pc + 3) ls (.ref (ad 15) :: rest))) : W p l e R s m args below meth c H locs cells slots Q (F0 m pc ls (.ref (ad 0) :: rest)) :=
  pt_g S hin hK hP 0 rfl rfl 26 (by decide) hlink rfl hdg kk
theorem gf_X10_27 (S : CallFix p m c cc nL s args Ts own) (hin : ∀ w ∈ wsX100, w ∈ Ts) (hK : pt_KK D (tysR ca) s) (hP : va_P D vwCl (wR ca ad σ) H) (hlink : (Cond.fieldLink own index "PackThreadsModel" "againMany" "I").before args s = true) (hdg : decode cc pc = .ok (.getfield index, 3)) (kk : W p l e R s m args below meth c H locs cells slots Q (F0 m (pc + 3) ls (.int (σ 0 27) :: rest))) : W p l e R s m args below meth c H locs cells slots Q (F0 m pc ls (.ref (ad 0) :: rest)) :=
  pt_g S hin hK hP 0 rfl rfl 27 (by decide) hlink rfl hdg kk
theorem pf_X10_27 (S : CallFix p m c cc nL s args Ts own) (hin : ∀ w ∈ wsX100, w ∈ Ts) (hK : pt_KK D (tysR ca) s) (hP : va_P D vwCl (wR ca ad σ) H) (hDa : ∀ σ, va_D A (wR ca ad σ)) (hS : va_S A H0 H locs) (hlink : (Cond.fieldLink own index "PackThreadsModel" "againMany" "I").before args s = true) (e1 : σ1 = (pt_put σ 0 27 v)) (hdg : decode cc pc = .ok (.putfield index, 3)) (kk : ∀ (H1 : Heap) (locs1 : List Loc), va_P D vwCl (wR ca ad σ1) H1 → va_S A H0 H1 locs1 → W p l e R s m args below meth c H1 locs1 cells slots Q (F0 m (pc + 3) ls rest)) : W p l e R s m args below meth c H locs cells slots Q (F0 m pc ls (.int v :: .ref (ad 0) :: rest)) := by
  subst e1
  exact pt_p S hin tyX10_ok nmX10 hK hP (hDa σ) hS 0 rfl rfl 27 (by decide) hlink rfl rfl rfl (Nat.le_of_ble_eq_true rfl) rfl hdg kk
theorem gf_X10_28 (S : CallFix p m c cc nL s args Ts own) (hin : ∀ w ∈ wsX100, w ∈ Ts) (hK : pt_KK D (tysR ca) s) (hP : va_P D vwCl (wR ca ad σ) H) (hlink : (Cond.fieldLink own index "PackThreadsModel" "inRow" "[Z").before args s = true) (hdg : decode cc pc = .ok (.getfield index, 3)) (kk : W p l e R s m args below meth c H locs cells slots Q (F0 m (pc + 3) ls (.ref (ad 16) :: rest))) : W p l e R s m args below meth c H locs cells slots Q (F0 m pc ls (.ref (ad 0) :: rest)) :=
  pt_g S hin hK hP 0 rfl rfl 28 (by decide) hlink rfl hdg kk
theorem gf_X10_29 (S : CallFix p m c cc nL s args Ts own) (hin : ∀ w ∈ wsX100, w ∈ Ts) (hK : pt_KK D (tysR ca) s) (hP : va_P D vwCl (wR ca ad σ) H) (hlink : (Cond.fieldLink own index "PackThreadsModel" "rowMany" "I").before args s = true) (hdg : decode cc pc = .ok (.getfield index, 3)) (kk : W p l e R s m args below meth c H locs cells slots Q (F0 m (pc + 3) ls (.int (σ 0 29) :: rest))) : W p l e R s m args below meth c H locs cells slots Q (F0 m pc ls (.ref (ad 0) :: rest)) :=
  pt_g S hin hK hP 0 rfl rfl 29 (by decide) hlink rfl hdg kk
theorem pf_X10_29 (S : CallFix p m c cc nL s args Ts own) (hin : ∀ w ∈ wsX100, w ∈ Ts) (hK : pt_KK D (tysR ca) s) (hP : va_P D vwCl (wR ca ad σ) H) (hDa : ∀ σ, va_D A (wR ca ad σ)) (hS : va_S A H0 H locs) (hlink : (Cond.fieldLink own index "PackThreadsModel" "rowMany" "I").before args s = true) (e1 : σ1 = (pt_put σ 0 29 v)) (hdg : decode cc pc = .ok (.putfield index, 3)) (kk : ∀ (H1 : Heap) (locs1 : List Loc), va_P D vwCl (wR ca ad σ1) H1 → va_S A H0 H1 locs1 → W p l e R s m args below meth c H1 locs1 cells slots Q (F0 m (pc + 3) ls rest)) : W p l e R s m args below meth c H locs cells slots Q (F0 m pc ls (.int v :: .ref (ad 0) :: rest)) := by
  subst e1
  exact pt_p S hin tyX10_ok nmX10 hK hP (hDa σ) hS 0 rfl rfl 29 (by decide) hlink rfl rfl rfl (Nat.le_of_ble_eq_true rfl) rfl hdg kk
theorem gf_X10_30 (S : CallFix p m c cc nL s args Ts own) (hin : ∀ w ∈ wsX100, w ∈ Ts) (hK : pt_KK D (tysR ca) s) (hP : va_P D vwCl (wR ca ad σ) H) (hlink : (Cond.fieldLink own index "PackThreadsModel" "joined" "I").before args s = true) (hdg : decode cc pc = .ok (.getfield index, 3)) (kk : W p l e R s m args below meth c H locs cells slots Q (F0 m (pc + 3) ls (.int (σ 0 30) :: rest))) : W p l e R s m args below meth c H locs cells slots Q (F0 m pc ls (.ref (ad 0) :: rest)) :=
  pt_g S hin hK hP 0 rfl rfl 30 (by decide) hlink rfl hdg kk
theorem pf_X10_30 (S : CallFix p m c cc nL s args Ts own) (hin : ∀ w ∈ wsX100, w ∈ Ts) (hK : pt_KK D (tysR ca) s) (hP : va_P D vwCl (wR ca ad σ) H) (hDa : ∀ σ, va_D A (wR ca ad σ)) (hS : va_S A H0 H locs) (hlink : (Cond.fieldLink own index "PackThreadsModel" "joined" "I").before args s = true) (e1 : σ1 = (pt_put σ 0 30 v)) (hdg : decode cc pc = .ok (.putfield index, 3)) (kk : ∀ (H1 : Heap) (locs1 : List Loc), va_P D vwCl (wR ca ad σ1) H1 → va_S A H0 H1 locs1 → W p l e R s m args below meth c H1 locs1 cells slots Q (F0 m (pc + 3) ls rest)) : W p l e R s m args below meth c H locs cells slots Q (F0 m pc ls (.int v :: .ref (ad 0) :: rest)) := by
  subst e1
  exact pt_p S hin tyX10_ok nmX10 hK hP (hDa σ) hS 0 rfl rfl 30 (by decide) hlink rfl rfl rfl (Nat.le_of_ble_eq_true rfl) rfl hdg kk
theorem gf_X10_31 (S : CallFix p m c cc nL s args Ts own) (hin : ∀ w ∈ wsX100, w ∈ Ts) (hK : pt_KK D (tysR ca) s) (hP : va_P D vwCl (wR ca ad σ) H) (hlink : (Cond.fieldLink own index "PackThreadsModel" "left" "I").before args s = true) (hdg : decode cc pc = .ok (.getfield index, 3)) (kk : W p l e R s m args below meth c H locs cells slots Q (F0 m (pc + 3) ls (.int (σ 0 31) :: rest))) : W p l e R s m args below meth c H locs cells slots Q (F0 m pc ls (.ref (ad 0) :: rest)) :=
  pt_g S hin hK hP 0 rfl rfl 31 (by decide) hlink rfl hdg kk
theorem pf_X10_31 (S : CallFix p m c cc nL s args Ts own) (hin : ∀ w ∈ wsX100, w ∈ Ts) (hK : pt_KK D (tysR ca) s) (hP : va_P D vwCl (wR ca ad σ) H) (hDa : ∀ σ, va_D A (wR ca ad σ)) (hS : va_S A H0 H locs) (hlink : (Cond.fieldLink own index "PackThreadsModel" "left" "I").before args s = true) (e1 : σ1 = (pt_put σ 0 31 v)) (hdg : decode cc pc = .ok (.putfield index, 3)) (kk : ∀ (H1 : Heap) (locs1 : List Loc), va_P D vwCl (wR ca ad σ1) H1 → va_S A H0 H1 locs1 → W p l e R s m args below meth c H1 locs1 cells slots Q (F0 m (pc + 3) ls rest)) : W p l e R s m args below meth c H locs cells slots Q (F0 m pc ls (.int v :: .ref (ad 0) :: rest)) := by
  subst e1
  exact pt_p S hin tyX10_ok nmX10 hK hP (hDa σ) hS 0 rfl rfl 31 (by decide) hlink rfl rfl rfl (Nat.le_of_ble_eq_true rfl) rfl hdg kk
theorem gf_X10_32 (S : CallFix p m c cc nL s args Ts own) (hin : ∀ w ∈ wsX100, w ∈ Ts) (hK : pt_KK D (tysR ca) s) (hP : va_P D vwCl (wR ca ad σ) H) (hlink : (Cond.fieldLink own index "PackThreadsModel" "line" "[I").before args s = true) (hdg : decode cc pc = .ok (.getfield index, 3)) (kk : W p l e R s m args below meth c H locs cells slots Q (F0 m (pc + 3) ls (.ref (ad 17) :: rest))) : W p l e R s m args below meth c H locs cells slots Q (F0 m pc ls (.ref (ad 0) :: rest)) :=
  pt_g S hin hK hP 0 rfl rfl 32 (by decide) hlink rfl hdg kk
theorem gf_X10_33 (S : CallFix p m c cc nL s args Ts own) (hin : ∀ w ∈ wsX100, w ∈ Ts) (hK : pt_KK D (tysR ca) s) (hP : va_P D vwCl (wR ca ad σ) H) (hlink : (Cond.fieldLink own index "PackThreadsModel" "lineMany" "I").before args s = true) (hdg : decode cc pc = .ok (.getfield index, 3)) (kk : W p l e R s m args below meth c H locs cells slots Q (F0 m (pc + 3) ls (.int (σ 0 33) :: rest))) : W p l e R s m args below meth c H locs cells slots Q (F0 m pc ls (.ref (ad 0) :: rest)) :=
  pt_g S hin hK hP 0 rfl rfl 33 (by decide) hlink rfl hdg kk
theorem pf_X10_33 (S : CallFix p m c cc nL s args Ts own) (hin : ∀ w ∈ wsX100, w ∈ Ts) (hK : pt_KK D (tysR ca) s) (hP : va_P D vwCl (wR ca ad σ) H) (hDa : ∀ σ, va_D A (wR ca ad σ)) (hS : va_S A H0 H locs) (hlink : (Cond.fieldLink own index "PackThreadsModel" "lineMany" "I").before args s = true) (e1 : σ1 = (pt_put σ 0 33 v)) (hdg : decode cc pc = .ok (.putfield index, 3)) (kk : ∀ (H1 : Heap) (locs1 : List Loc), va_P D vwCl (wR ca ad σ1) H1 → va_S A H0 H1 locs1 → W p l e R s m args below meth c H1 locs1 cells slots Q (F0 m (pc + 3) ls rest)) : W p l e R s m args below meth c H locs cells slots Q (F0 m pc ls (.int v :: .ref (ad 0) :: rest)) := by
  subst e1
  exact pt_p S hin tyX10_ok nmX10 hK hP (hDa σ) hS 0 rfl rfl 33 (by decide) hlink rfl rfl rfl (Nat.le_of_ble_eq_true rfl) rfl hdg kk
theorem gf_X10_34 (S : CallFix p m c cc nL s args Ts own) (hin : ∀ w ∈ wsX100, w ∈ Ts) (hK : pt_KK D (tysR ca) s) (hP : va_P D vwCl (wR ca ad σ) H) (hlink : (Cond.fieldLink own index "PackThreadsModel" "stopBlock" "I").before args s = true) (hdg : decode cc pc = .ok (.getfield index, 3)) (kk : W p l e R s m args below meth c H locs cells slots Q (F0 m (pc + 3) ls (.int (σ 0 34) :: rest))) : W p l e R s m args below meth c H locs cells slots Q (F0 m pc ls (.ref (ad 0) :: rest)) :=
  pt_g S hin hK hP 0 rfl rfl 34 (by decide) hlink rfl hdg kk
theorem pf_X10_34 (S : CallFix p m c cc nL s args Ts own) (hin : ∀ w ∈ wsX100, w ∈ Ts) (hK : pt_KK D (tysR ca) s) (hP : va_P D vwCl (wR ca ad σ) H) (hDa : ∀ σ, va_D A (wR ca ad σ)) (hS : va_S A H0 H locs) (hlink : (Cond.fieldLink own index "PackThreadsModel" "stopBlock" "I").before args s = true) (e1 : σ1 = (pt_put σ 0 34 v)) (hdg : decode cc pc = .ok (.putfield index, 3)) (kk : ∀ (H1 : Heap) (locs1 : List Loc), va_P D vwCl (wR ca ad σ1) H1 → va_S A H0 H1 locs1 → W p l e R s m args below meth c H1 locs1 cells slots Q (F0 m (pc + 3) ls rest)) : W p l e R s m args below meth c H locs cells slots Q (F0 m pc ls (.int v :: .ref (ad 0) :: rest)) := by
  subst e1
  exact pt_p S hin tyX10_ok nmX10 hK hP (hDa σ) hS 0 rfl rfl 34 (by decide) hlink rfl rfl rfl (Nat.le_of_ble_eq_true rfl) rfl hdg kk
theorem gf_X10_35 (S : CallFix p m c cc nL s args Ts own) (hin : ∀ w ∈ wsX100, w ∈ Ts) (hK : pt_KK D (tysR ca) s) (hP : va_P D vwCl (wR ca ad σ) H) (hlink : (Cond.fieldLink own index "PackThreadsModel" "stopKind" "I").before args s = true) (hdg : decode cc pc = .ok (.getfield index, 3)) (kk : W p l e R s m args below meth c H locs cells slots Q (F0 m (pc + 3) ls (.int (σ 0 35) :: rest))) : W p l e R s m args below meth c H locs cells slots Q (F0 m pc ls (.ref (ad 0) :: rest)) :=
  pt_g S hin hK hP 0 rfl rfl 35 (by decide) hlink rfl hdg kk
theorem pf_X10_35 (S : CallFix p m c cc nL s args Ts own) (hin : ∀ w ∈ wsX100, w ∈ Ts) (hK : pt_KK D (tysR ca) s) (hP : va_P D vwCl (wR ca ad σ) H) (hDa : ∀ σ, va_D A (wR ca ad σ)) (hS : va_S A H0 H locs) (hlink : (Cond.fieldLink own index "PackThreadsModel" "stopKind" "I").before args s = true) (e1 : σ1 = (pt_put σ 0 35 v)) (hdg : decode cc pc = .ok (.putfield index, 3)) (kk : ∀ (H1 : Heap) (locs1 : List Loc), va_P D vwCl (wR ca ad σ1) H1 → va_S A H0 H1 locs1 → W p l e R s m args below meth c H1 locs1 cells slots Q (F0 m (pc + 3) ls rest)) : W p l e R s m args below meth c H locs cells slots Q (F0 m pc ls (.int v :: .ref (ad 0) :: rest)) := by
  subst e1
  exact pt_p S hin tyX10_ok nmX10 hK hP (hDa σ) hS 0 rfl rfl 35 (by decide) hlink rfl rfl rfl (Nat.le_of_ble_eq_true rfl) rfl hdg kk
theorem gf_X10_36 (S : CallFix p m c cc nL s args Ts own) (hin : ∀ w ∈ wsX100, w ∈ Ts) (hK : pt_KK D (tysR ca) s) (hP : va_P D vwCl (wR ca ad σ) H) (hlink : (Cond.fieldLink own index "PackThreadsModel" "failures" "I").before args s = true) (hdg : decode cc pc = .ok (.getfield index, 3)) (kk : W p l e R s m args below meth c H locs cells slots Q (F0 m (pc + 3) ls (.int (σ 0 36) :: rest))) : W p l e R s m args below meth c H locs cells slots Q (F0 m pc ls (.ref (ad 0) :: rest)) :=
  pt_g S hin hK hP 0 rfl rfl 36 (by decide) hlink rfl hdg kk
theorem pf_X10_36 (S : CallFix p m c cc nL s args Ts own) (hin : ∀ w ∈ wsX100, w ∈ Ts) (hK : pt_KK D (tysR ca) s) (hP : va_P D vwCl (wR ca ad σ) H) (hDa : ∀ σ, va_D A (wR ca ad σ)) (hS : va_S A H0 H locs) (hlink : (Cond.fieldLink own index "PackThreadsModel" "failures" "I").before args s = true) (e1 : σ1 = (pt_put σ 0 36 v)) (hdg : decode cc pc = .ok (.putfield index, 3)) (kk : ∀ (H1 : Heap) (locs1 : List Loc), va_P D vwCl (wR ca ad σ1) H1 → va_S A H0 H1 locs1 → W p l e R s m args below meth c H1 locs1 cells slots Q (F0 m (pc + 3) ls rest)) : W p l e R s m args below meth c H locs cells slots Q (F0 m pc ls (.int v :: .ref (ad 0) :: rest)) := by
  subst e1
  exact pt_p S hin tyX10_ok nmX10 hK hP (hDa σ) hS 0 rfl rfl 36 (by decide) hlink rfl rfl rfl (Nat.le_of_ble_eq_true rfl) rfl hdg kk
theorem gf_X10_37 (S : CallFix p m c cc nL s args Ts own) (hin : ∀ w ∈ wsX100, w ∈ Ts) (hK : pt_KK D (tysR ca) s) (hP : va_P D vwCl (wR ca ad σ) H) (hlink : (Cond.fieldLink own index "PackThreadsModel" "turns" "I").before args s = true) (hdg : decode cc pc = .ok (.getfield index, 3)) (kk : W p l e R s m args below meth c H locs cells slots Q (F0 m (pc + 3) ls (.int (σ 0 37) :: rest))) : W p l e R s m args below meth c H locs cells slots Q (F0 m pc ls (.ref (ad 0) :: rest)) :=
  pt_g S hin hK hP 0 rfl rfl 37 (by decide) hlink rfl hdg kk
theorem pf_X10_37 (S : CallFix p m c cc nL s args Ts own) (hin : ∀ w ∈ wsX100, w ∈ Ts) (hK : pt_KK D (tysR ca) s) (hP : va_P D vwCl (wR ca ad σ) H) (hDa : ∀ σ, va_D A (wR ca ad σ)) (hS : va_S A H0 H locs) (hlink : (Cond.fieldLink own index "PackThreadsModel" "turns" "I").before args s = true) (e1 : σ1 = (pt_put σ 0 37 v)) (hdg : decode cc pc = .ok (.putfield index, 3)) (kk : ∀ (H1 : Heap) (locs1 : List Loc), va_P D vwCl (wR ca ad σ1) H1 → va_S A H0 H1 locs1 → W p l e R s m args below meth c H1 locs1 cells slots Q (F0 m (pc + 3) ls rest)) : W p l e R s m args below meth c H locs cells slots Q (F0 m pc ls (.int v :: .ref (ad 0) :: rest)) := by
  subst e1
  exact pt_p S hin tyX10_ok nmX10 hK hP (hDa σ) hS 0 rfl rfl 37 (by decide) hlink rfl rfl rfl (Nat.le_of_ble_eq_true rfl) rfl hdg kk
theorem ln_R_1 (S : CallFix p m c cc nL s args Ts own) (hK : pt_KK D (tysR ca) s) (hP : va_P D vwCl (wR ca ad σ) H) (hdg : decode cc pc = .ok (.arraylength, 1)) (kk : W p l e R s m args below meth c H locs cells slots Q (F0 m (pc + 1) ls (.int 160 :: rest))) : W p l e R s m args below meth c H locs cells slots Q (F0 m pc ls (.ref (ad 1) :: rest)) :=
  pt_len S hK hP 1 0 rfl rfl (v := 160) (by decide) hdg kk
theorem ld_R_1 (S : CallFix p m c cc nL s args Ts own) (hK : pt_KK D (tysR ca) s) (hP : va_P D vwCl (wR ca ad σ) H) (hi : pt_in i 160) (hdg : decode cc pc = .ok (.iaload, 1)) (kk : W p l e R s m args below meth c H locs cells slots Q (F0 m (pc + 1) ls (.int (σ 1 i.toNatClampNeg) :: rest))) : W p l e R s m args below meth c H locs cells slots Q (F0 m pc ls (.int i :: .ref (ad 1) :: rest)) :=
  pt_ild S hK hP 1 0 rfl rfl hi hdg kk
theorem st_R_1 (S : CallFix p m c cc nL s args Ts own) (hK : pt_KK D (tysR ca) s) (hP : va_P D vwCl (wR ca ad σ) H) (hDa : ∀ σ, va_D A (wR ca ad σ)) (hS : va_S A H0 H locs) (hi : pt_in i 160) (e1 : σ1 = pt_put σ 1 i.toNatClampNeg v) (hdg : decode cc pc = .ok (.iastore, 1)) (kk : ∀ (H1 : Heap) (locs1 : List Loc), va_P D vwCl (wR ca ad σ1) H1 → va_S A H0 H1 locs1 → W p l e R s m args below meth c H1 locs1 cells slots Q (F0 m (pc + 1) ls rest)) : W p l e R s m args below meth c H locs cells slots Q (F0 m pc ls (.int v :: .int i :: .ref (ad 1) :: rest)) := by
  subst e1
  exact pt_ist S hK hP (hDa σ) hS 1 0 rfl rfl hi rfl hdg kk
theorem ln_R_2 (S : CallFix p m c cc nL s args Ts own) (hK : pt_KK D (tysR ca) s) (hP : va_P D vwCl (wR ca ad σ) H) (hdg : decode cc pc = .ok (.arraylength, 1)) (kk : W p l e R s m args below meth c H locs cells slots Q (F0 m (pc + 1) ls (.int 40 :: rest))) : W p l e R s m args below meth c H locs cells slots Q (F0 m pc ls (.ref (ad 2) :: rest)) :=
  pt_len S hK hP 2 1 rfl rfl (v := 40) (by decide) hdg kk
theorem ld_R_2 (S : CallFix p m c cc nL s args Ts own) (hK : pt_KK D (tysR ca) s) (hP : va_P D vwCl (wR ca ad σ) H) (hi : pt_in i 40) (hdg : decode cc pc = .ok (.iaload, 1)) (kk : W p l e R s m args below meth c H locs cells slots Q (F0 m (pc + 1) ls (.int (σ 2 i.toNatClampNeg) :: rest))) : W p l e R s m args below meth c H locs cells slots Q (F0 m pc ls (.int i :: .ref (ad 2) :: rest)) :=
  pt_ild S hK hP 2 1 rfl rfl hi hdg kk
theorem st_R_2 (S : CallFix p m c cc nL s args Ts own) (hK : pt_KK D (tysR ca) s) (hP : va_P D vwCl (wR ca ad σ) H) (hDa : ∀ σ, va_D A (wR ca ad σ)) (hS : va_S A H0 H locs) (hi : pt_in i 40) (e1 : σ1 = pt_put σ 2 i.toNatClampNeg v) (hdg : decode cc pc = .ok (.iastore, 1)) (kk : ∀ (H1 : Heap) (locs1 : List Loc), va_P D vwCl (wR ca ad σ1) H1 → va_S A H0 H1 locs1 → W p l e R s m args below meth c H1 locs1 cells slots Q (F0 m (pc + 1) ls rest)) : W p l e R s m args below meth c H locs cells slots Q (F0 m pc ls (.int v :: .int i :: .ref (ad 2) :: rest)) := by
  subst e1
  exact pt_ist S hK hP (hDa σ) hS 2 1 rfl rfl hi rfl hdg kk
theorem ln_R_3 (S : CallFix p m c cc nL s args Ts own) (hK : pt_KK D (tysR ca) s) (hP : va_P D vwCl (wR ca ad σ) H) (hdg : decode cc pc = .ok (.arraylength, 1)) (kk : W p l e R s m args below meth c H locs cells slots Q (F0 m (pc + 1) ls (.int 40 :: rest))) : W p l e R s m args below meth c H locs cells slots Q (F0 m pc ls (.ref (ad 3) :: rest)) :=
  pt_len S hK hP 3 2 rfl rfl (v := 40) (by decide) hdg kk
theorem ld_R_3 (S : CallFix p m c cc nL s args Ts own) (hK : pt_KK D (tysR ca) s) (hP : va_P D vwCl (wR ca ad σ) H) (hi : pt_in i 40) (hdg : decode cc pc = .ok (.iaload, 1)) (kk : W p l e R s m args below meth c H locs cells slots Q (F0 m (pc + 1) ls (.int (σ 3 i.toNatClampNeg) :: rest))) : W p l e R s m args below meth c H locs cells slots Q (F0 m pc ls (.int i :: .ref (ad 3) :: rest)) :=
  pt_ild S hK hP 3 2 rfl rfl hi hdg kk
theorem st_R_3 (S : CallFix p m c cc nL s args Ts own) (hK : pt_KK D (tysR ca) s) (hP : va_P D vwCl (wR ca ad σ) H) (hDa : ∀ σ, va_D A (wR ca ad σ)) (hS : va_S A H0 H locs) (hi : pt_in i 40) (e1 : σ1 = pt_put σ 3 i.toNatClampNeg v) (hdg : decode cc pc = .ok (.iastore, 1)) (kk : ∀ (H1 : Heap) (locs1 : List Loc), va_P D vwCl (wR ca ad σ1) H1 → va_S A H0 H1 locs1 → W p l e R s m args below meth c H1 locs1 cells slots Q (F0 m (pc + 1) ls rest)) : W p l e R s m args below meth c H locs cells slots Q (F0 m pc ls (.int v :: .int i :: .ref (ad 3) :: rest)) := by
  subst e1
  exact pt_ist S hK hP (hDa σ) hS 3 2 rfl rfl hi rfl hdg kk
theorem ln_R_4 (S : CallFix p m c cc nL s args Ts own) (hK : pt_KK D (tysR ca) s) (hP : va_P D vwCl (wR ca ad σ) H) (hdg : decode cc pc = .ok (.arraylength, 1)) (kk : W p l e R s m args below meth c H locs cells slots Q (F0 m (pc + 1) ls (.int 40 :: rest))) : W p l e R s m args below meth c H locs cells slots Q (F0 m pc ls (.ref (ad 4) :: rest)) :=
  pt_len S hK hP 4 3 rfl rfl (v := 40) (by decide) hdg kk
theorem ld_R_4 (S : CallFix p m c cc nL s args Ts own) (hK : pt_KK D (tysR ca) s) (hP : va_P D vwCl (wR ca ad σ) H) (hi : pt_in i 40) (hdg : decode cc pc = .ok (.baload, 1)) (kk : W p l e R s m args below meth c H locs cells slots Q (F0 m (pc + 1) ls (.int (σ 4 i.toNatClampNeg) :: rest))) : W p l e R s m args below meth c H locs cells slots Q (F0 m pc ls (.int i :: .ref (ad 4) :: rest)) :=
  pt_zld S hK hP 4 3 rfl rfl hi hdg kk
theorem st_R_4 (S : CallFix p m c cc nL s args Ts own) (hK : pt_KK D (tysR ca) s) (hP : va_P D vwCl (wR ca ad σ) H) (hDa : ∀ σ, va_D A (wR ca ad σ)) (hS : va_S A H0 H locs) (hi : pt_in i 40) (e1 : σ1 = pt_put σ 4 i.toNatClampNeg (vp_nar .boolean v)) (hdg : decode cc pc = .ok (.bastore, 1)) (kk : ∀ (H1 : Heap) (locs1 : List Loc), va_P D vwCl (wR ca ad σ1) H1 → va_S A H0 H1 locs1 → W p l e R s m args below meth c H1 locs1 cells slots Q (F0 m (pc + 1) ls rest)) : W p l e R s m args below meth c H locs cells slots Q (F0 m pc ls (.int v :: .int i :: .ref (ad 4) :: rest)) := by
  subst e1
  exact pt_zst S hK hP (hDa σ) hS 4 3 rfl rfl hi rfl hdg kk
theorem ln_R_5 (S : CallFix p m c cc nL s args Ts own) (hK : pt_KK D (tysR ca) s) (hP : va_P D vwCl (wR ca ad σ) H) (hdg : decode cc pc = .ok (.arraylength, 1)) (kk : W p l e R s m args below meth c H locs cells slots Q (F0 m (pc + 1) ls (.int 700 :: rest))) : W p l e R s m args below meth c H locs cells slots Q (F0 m pc ls (.ref (ad 5) :: rest)) :=
  pt_len S hK hP 5 4 rfl rfl (v := 700) (by decide) hdg kk
theorem ld_R_5 (S : CallFix p m c cc nL s args Ts own) (hK : pt_KK D (tysR ca) s) (hP : va_P D vwCl (wR ca ad σ) H) (hi : pt_in i 700) (hdg : decode cc pc = .ok (.iaload, 1)) (kk : W p l e R s m args below meth c H locs cells slots Q (F0 m (pc + 1) ls (.int (σ 5 i.toNatClampNeg) :: rest))) : W p l e R s m args below meth c H locs cells slots Q (F0 m pc ls (.int i :: .ref (ad 5) :: rest)) :=
  pt_ild S hK hP 5 4 rfl rfl hi hdg kk
theorem st_R_5 (S : CallFix p m c cc nL s args Ts own) (hK : pt_KK D (tysR ca) s) (hP : va_P D vwCl (wR ca ad σ) H) (hDa : ∀ σ, va_D A (wR ca ad σ)) (hS : va_S A H0 H locs) (hi : pt_in i 700) (e1 : σ1 = pt_put σ 5 i.toNatClampNeg v) (hdg : decode cc pc = .ok (.iastore, 1)) (kk : ∀ (H1 : Heap) (locs1 : List Loc), va_P D vwCl (wR ca ad σ1) H1 → va_S A H0 H1 locs1 → W p l e R s m args below meth c H1 locs1 cells slots Q (F0 m (pc + 1) ls rest)) : W p l e R s m args below meth c H locs cells slots Q (F0 m pc ls (.int v :: .int i :: .ref (ad 5) :: rest)) := by
  subst e1
  exact pt_ist S hK hP (hDa σ) hS 5 4 rfl rfl hi rfl hdg kk
theorem ln_R_6 (S : CallFix p m c cc nL s args Ts own) (hK : pt_KK D (tysR ca) s) (hP : va_P D vwCl (wR ca ad σ) H) (hdg : decode cc pc = .ok (.arraylength, 1)) (kk : W p l e R s m args below meth c H locs cells slots Q (F0 m (pc + 1) ls (.int 40 :: rest))) : W p l e R s m args below meth c H locs cells slots Q (F0 m pc ls (.ref (ad 6) :: rest)) :=
  pt_len S hK hP 6 5 rfl rfl (v := 40) (by decide) hdg kk
theorem ld_R_6 (S : CallFix p m c cc nL s args Ts own) (hK : pt_KK D (tysR ca) s) (hP : va_P D vwCl (wR ca ad σ) H) (hi : pt_in i 40) (hdg : decode cc pc = .ok (.iaload, 1)) (kk : W p l e R s m args below meth c H locs cells slots Q (F0 m (pc + 1) ls (.int (σ 6 i.toNatClampNeg) :: rest))) : W p l e R s m args below meth c H locs cells slots Q (F0 m pc ls (.int i :: .ref (ad 6) :: rest)) :=
  pt_ild S hK hP 6 5 rfl rfl hi hdg kk
theorem st_R_6 (S : CallFix p m c cc nL s args Ts own) (hK : pt_KK D (tysR ca) s) (hP : va_P D vwCl (wR ca ad σ) H) (hDa : ∀ σ, va_D A (wR ca ad σ)) (hS : va_S A H0 H locs) (hi : pt_in i 40) (e1 : σ1 = pt_put σ 6 i.toNatClampNeg v) (hdg : decode cc pc = .ok (.iastore, 1)) (kk : ∀ (H1 : Heap) (locs1 : List Loc), va_P D vwCl (wR ca ad σ1) H1 → va_S A H0 H1 locs1 → W p l e R s m args below meth c H1 locs1 cells slots Q (F0 m (pc + 1) ls rest)) : W p l e R s m args below meth c H locs cells slots Q (F0 m pc ls (.int v :: .int i :: .ref (ad 6) :: rest)) := by
  subst e1
  exact pt_ist S hK hP (hDa σ) hS 6 5 rfl rfl hi rfl hdg kk
theorem ln_R_7 (S : CallFix p m c cc nL s args Ts own) (hK : pt_KK D (tysR ca) s) (hP : va_P D vwCl (wR ca ad σ) H) (hdg : decode cc pc = .ok (.arraylength, 1)) (kk : W p l e R s m args below meth c H locs cells slots Q (F0 m (pc + 1) ls (.int 40 :: rest))) : W p l e R s m args below meth c H locs cells slots Q (F0 m pc ls (.ref (ad 7) :: rest)) :=
  pt_len S hK hP 7 6 rfl rfl (v := 40) (by decide) hdg kk
theorem ld_R_7 (S : CallFix p m c cc nL s args Ts own) (hK : pt_KK D (tysR ca) s) (hP : va_P D vwCl (wR ca ad σ) H) (hi : pt_in i 40) (hdg : decode cc pc = .ok (.iaload, 1)) (kk : W p l e R s m args below meth c H locs cells slots Q (F0 m (pc + 1) ls (.int (σ 7 i.toNatClampNeg) :: rest))) : W p l e R s m args below meth c H locs cells slots Q (F0 m pc ls (.int i :: .ref (ad 7) :: rest)) :=
  pt_ild S hK hP 7 6 rfl rfl hi hdg kk
theorem st_R_7 (S : CallFix p m c cc nL s args Ts own) (hK : pt_KK D (tysR ca) s) (hP : va_P D vwCl (wR ca ad σ) H) (hDa : ∀ σ, va_D A (wR ca ad σ)) (hS : va_S A H0 H locs) (hi : pt_in i 40) (e1 : σ1 = pt_put σ 7 i.toNatClampNeg v) (hdg : decode cc pc = .ok (.iastore, 1)) (kk : ∀ (H1 : Heap) (locs1 : List Loc), va_P D vwCl (wR ca ad σ1) H1 → va_S A H0 H1 locs1 → W p l e R s m args below meth c H1 locs1 cells slots Q (F0 m (pc + 1) ls rest)) : W p l e R s m args below meth c H locs cells slots Q (F0 m pc ls (.int v :: .int i :: .ref (ad 7) :: rest)) := by
  subst e1
  exact pt_ist S hK hP (hDa σ) hS 7 6 rfl rfl hi rfl hdg kk
theorem ln_R_8 (S : CallFix p m c cc nL s args Ts own) (hK : pt_KK D (tysR ca) s) (hP : va_P D vwCl (wR ca ad σ) H) (hdg : decode cc pc = .ok (.arraylength, 1)) (kk : W p l e R s m args below meth c H locs cells slots Q (F0 m (pc + 1) ls (.int 6 :: rest))) : W p l e R s m args below meth c H locs cells slots Q (F0 m pc ls (.ref (ad 8) :: rest)) :=
  pt_len S hK hP 8 7 rfl rfl (v := 6) (by decide) hdg kk
theorem ld_R_8 (S : CallFix p m c cc nL s args Ts own) (hK : pt_KK D (tysR ca) s) (hP : va_P D vwCl (wR ca ad σ) H) (hi : pt_in i 6) (hdg : decode cc pc = .ok (.iaload, 1)) (kk : W p l e R s m args below meth c H locs cells slots Q (F0 m (pc + 1) ls (.int (σ 8 i.toNatClampNeg) :: rest))) : W p l e R s m args below meth c H locs cells slots Q (F0 m pc ls (.int i :: .ref (ad 8) :: rest)) :=
  pt_ild S hK hP 8 7 rfl rfl hi hdg kk
theorem st_R_8 (S : CallFix p m c cc nL s args Ts own) (hK : pt_KK D (tysR ca) s) (hP : va_P D vwCl (wR ca ad σ) H) (hDa : ∀ σ, va_D A (wR ca ad σ)) (hS : va_S A H0 H locs) (hi : pt_in i 6) (e1 : σ1 = pt_put σ 8 i.toNatClampNeg v) (hdg : decode cc pc = .ok (.iastore, 1)) (kk : ∀ (H1 : Heap) (locs1 : List Loc), va_P D vwCl (wR ca ad σ1) H1 → va_S A H0 H1 locs1 → W p l e R s m args below meth c H1 locs1 cells slots Q (F0 m (pc + 1) ls rest)) : W p l e R s m args below meth c H locs cells slots Q (F0 m pc ls (.int v :: .int i :: .ref (ad 8) :: rest)) := by
  subst e1
  exact pt_ist S hK hP (hDa σ) hS 8 7 rfl rfl hi rfl hdg kk
theorem ln_R_9 (S : CallFix p m c cc nL s args Ts own) (hK : pt_KK D (tysR ca) s) (hP : va_P D vwCl (wR ca ad σ) H) (hdg : decode cc pc = .ok (.arraylength, 1)) (kk : W p l e R s m args below meth c H locs cells slots Q (F0 m (pc + 1) ls (.int 6 :: rest))) : W p l e R s m args below meth c H locs cells slots Q (F0 m pc ls (.ref (ad 9) :: rest)) :=
  pt_len S hK hP 9 8 rfl rfl (v := 6) (by decide) hdg kk
theorem ld_R_9 (S : CallFix p m c cc nL s args Ts own) (hK : pt_KK D (tysR ca) s) (hP : va_P D vwCl (wR ca ad σ) H) (hi : pt_in i 6) (hdg : decode cc pc = .ok (.iaload, 1)) (kk : W p l e R s m args below meth c H locs cells slots Q (F0 m (pc + 1) ls (.int (σ 9 i.toNatClampNeg) :: rest))) : W p l e R s m args below meth c H locs cells slots Q (F0 m pc ls (.int i :: .ref (ad 9) :: rest)) :=
  pt_ild S hK hP 9 8 rfl rfl hi hdg kk
theorem st_R_9 (S : CallFix p m c cc nL s args Ts own) (hK : pt_KK D (tysR ca) s) (hP : va_P D vwCl (wR ca ad σ) H) (hDa : ∀ σ, va_D A (wR ca ad σ)) (hS : va_S A H0 H locs) (hi : pt_in i 6) (e1 : σ1 = pt_put σ 9 i.toNatClampNeg v) (hdg : decode cc pc = .ok (.iastore, 1)) (kk : ∀ (H1 : Heap) (locs1 : List Loc), va_P D vwCl (wR ca ad σ1) H1 → va_S A H0 H1 locs1 → W p l e R s m args below meth c H1 locs1 cells slots Q (F0 m (pc + 1) ls rest)) : W p l e R s m args below meth c H locs cells slots Q (F0 m pc ls (.int v :: .int i :: .ref (ad 9) :: rest)) := by
  subst e1
  exact pt_ist S hK hP (hDa σ) hS 9 8 rfl rfl hi rfl hdg kk
theorem ln_R_10 (S : CallFix p m c cc nL s args Ts own) (hK : pt_KK D (tysR ca) s) (hP : va_P D vwCl (wR ca ad σ) H) (hdg : decode cc pc = .ok (.arraylength, 1)) (kk : W p l e R s m args below meth c H locs cells slots Q (F0 m (pc + 1) ls (.int 6 :: rest))) : W p l e R s m args below meth c H locs cells slots Q (F0 m pc ls (.ref (ad 10) :: rest)) :=
  pt_len S hK hP 10 9 rfl rfl (v := 6) (by decide) hdg kk
theorem ld_R_10 (S : CallFix p m c cc nL s args Ts own) (hK : pt_KK D (tysR ca) s) (hP : va_P D vwCl (wR ca ad σ) H) (hi : pt_in i 6) (hdg : decode cc pc = .ok (.iaload, 1)) (kk : W p l e R s m args below meth c H locs cells slots Q (F0 m (pc + 1) ls (.int (σ 10 i.toNatClampNeg) :: rest))) : W p l e R s m args below meth c H locs cells slots Q (F0 m pc ls (.int i :: .ref (ad 10) :: rest)) :=
  pt_ild S hK hP 10 9 rfl rfl hi hdg kk
theorem st_R_10 (S : CallFix p m c cc nL s args Ts own) (hK : pt_KK D (tysR ca) s) (hP : va_P D vwCl (wR ca ad σ) H) (hDa : ∀ σ, va_D A (wR ca ad σ)) (hS : va_S A H0 H locs) (hi : pt_in i 6) (e1 : σ1 = pt_put σ 10 i.toNatClampNeg v) (hdg : decode cc pc = .ok (.iastore, 1)) (kk : ∀ (H1 : Heap) (locs1 : List Loc), va_P D vwCl (wR ca ad σ1) H1 → va_S A H0 H1 locs1 → W p l e R s m args below meth c H1 locs1 cells slots Q (F0 m (pc + 1) ls rest)) : W p l e R s m args below meth c H locs cells slots Q (F0 m pc ls (.int v :: .int i :: .ref (ad 10) :: rest)) := by
  subst e1
  exact pt_ist S hK hP (hDa σ) hS 10 9 rfl rfl hi rfl hdg kk
theorem ln_R_11 (S : CallFix p m c cc nL s args Ts own) (hK : pt_KK D (tysR ca) s) (hP : va_P D vwCl (wR ca ad σ) H) (hdg : decode cc pc = .ok (.arraylength, 1)) (kk : W p l e R s m args below meth c H locs cells slots Q (F0 m (pc + 1) ls (.int 6 :: rest))) : W p l e R s m args below meth c H locs cells slots Q (F0 m pc ls (.ref (ad 11) :: rest)) :=
  pt_len S hK hP 11 10 rfl rfl (v := 6) (by decide) hdg kk
theorem ld_R_11 (S : CallFix p m c cc nL s args Ts own) (hK : pt_KK D (tysR ca) s) (hP : va_P D vwCl (wR ca ad σ) H) (hi : pt_in i 6) (hdg : decode cc pc = .ok (.iaload, 1)) (kk : W p l e R s m args below meth c H locs cells slots Q (F0 m (pc + 1) ls (.int (σ 11 i.toNatClampNeg) :: rest))) : W p l e R s m args below meth c H locs cells slots Q (F0 m pc ls (.int i :: .ref (ad 11) :: rest)) :=
  pt_ild S hK hP 11 10 rfl rfl hi hdg kk
theorem st_R_11 (S : CallFix p m c cc nL s args Ts own) (hK : pt_KK D (tysR ca) s) (hP : va_P D vwCl (wR ca ad σ) H) (hDa : ∀ σ, va_D A (wR ca ad σ)) (hS : va_S A H0 H locs) (hi : pt_in i 6) (e1 : σ1 = pt_put σ 11 i.toNatClampNeg v) (hdg : decode cc pc = .ok (.iastore, 1)) (kk : ∀ (H1 : Heap) (locs1 : List Loc), va_P D vwCl (wR ca ad σ1) H1 → va_S A H0 H1 locs1 → W p l e R s m args below meth c H1 locs1 cells slots Q (F0 m (pc + 1) ls rest)) : W p l e R s m args below meth c H locs cells slots Q (F0 m pc ls (.int v :: .int i :: .ref (ad 11) :: rest)) := by
  subst e1
  exact pt_ist S hK hP (hDa σ) hS 11 10 rfl rfl hi rfl hdg kk
theorem ln_R_12 (S : CallFix p m c cc nL s args Ts own) (hK : pt_KK D (tysR ca) s) (hP : va_P D vwCl (wR ca ad σ) H) (hdg : decode cc pc = .ok (.arraylength, 1)) (kk : W p l e R s m args below meth c H locs cells slots Q (F0 m (pc + 1) ls (.int 6 :: rest))) : W p l e R s m args below meth c H locs cells slots Q (F0 m pc ls (.ref (ad 12) :: rest)) :=
  pt_len S hK hP 12 11 rfl rfl (v := 6) (by decide) hdg kk
theorem ld_R_12 (S : CallFix p m c cc nL s args Ts own) (hK : pt_KK D (tysR ca) s) (hP : va_P D vwCl (wR ca ad σ) H) (hi : pt_in i 6) (hdg : decode cc pc = .ok (.iaload, 1)) (kk : W p l e R s m args below meth c H locs cells slots Q (F0 m (pc + 1) ls (.int (σ 12 i.toNatClampNeg) :: rest))) : W p l e R s m args below meth c H locs cells slots Q (F0 m pc ls (.int i :: .ref (ad 12) :: rest)) :=
  pt_ild S hK hP 12 11 rfl rfl hi hdg kk
theorem st_R_12 (S : CallFix p m c cc nL s args Ts own) (hK : pt_KK D (tysR ca) s) (hP : va_P D vwCl (wR ca ad σ) H) (hDa : ∀ σ, va_D A (wR ca ad σ)) (hS : va_S A H0 H locs) (hi : pt_in i 6) (e1 : σ1 = pt_put σ 12 i.toNatClampNeg v) (hdg : decode cc pc = .ok (.iastore, 1)) (kk : ∀ (H1 : Heap) (locs1 : List Loc), va_P D vwCl (wR ca ad σ1) H1 → va_S A H0 H1 locs1 → W p l e R s m args below meth c H1 locs1 cells slots Q (F0 m (pc + 1) ls rest)) : W p l e R s m args below meth c H locs cells slots Q (F0 m pc ls (.int v :: .int i :: .ref (ad 12) :: rest)) := by
  subst e1
  exact pt_ist S hK hP (hDa σ) hS 12 11 rfl rfl hi rfl hdg kk
theorem ln_R_13 (S : CallFix p m c cc nL s args Ts own) (hK : pt_KK D (tysR ca) s) (hP : va_P D vwCl (wR ca ad σ) H) (hdg : decode cc pc = .ok (.arraylength, 1)) (kk : W p l e R s m args below meth c H locs cells slots Q (F0 m (pc + 1) ls (.int 6 :: rest))) : W p l e R s m args below meth c H locs cells slots Q (F0 m pc ls (.ref (ad 13) :: rest)) :=
  pt_len S hK hP 13 12 rfl rfl (v := 6) (by decide) hdg kk
theorem ld_R_13 (S : CallFix p m c cc nL s args Ts own) (hK : pt_KK D (tysR ca) s) (hP : va_P D vwCl (wR ca ad σ) H) (hi : pt_in i 6) (hdg : decode cc pc = .ok (.baload, 1)) (kk : W p l e R s m args below meth c H locs cells slots Q (F0 m (pc + 1) ls (.int (σ 13 i.toNatClampNeg) :: rest))) : W p l e R s m args below meth c H locs cells slots Q (F0 m pc ls (.int i :: .ref (ad 13) :: rest)) :=
  pt_zld S hK hP 13 12 rfl rfl hi hdg kk
theorem st_R_13 (S : CallFix p m c cc nL s args Ts own) (hK : pt_KK D (tysR ca) s) (hP : va_P D vwCl (wR ca ad σ) H) (hDa : ∀ σ, va_D A (wR ca ad σ)) (hS : va_S A H0 H locs) (hi : pt_in i 6) (e1 : σ1 = pt_put σ 13 i.toNatClampNeg (vp_nar .boolean v)) (hdg : decode cc pc = .ok (.bastore, 1)) (kk : ∀ (H1 : Heap) (locs1 : List Loc), va_P D vwCl (wR ca ad σ1) H1 → va_S A H0 H1 locs1 → W p l e R s m args below meth c H1 locs1 cells slots Q (F0 m (pc + 1) ls rest)) : W p l e R s m args below meth c H locs cells slots Q (F0 m pc ls (.int v :: .int i :: .ref (ad 13) :: rest)) := by
  subst e1
  exact pt_zst S hK hP (hDa σ) hS 13 12 rfl rfl hi rfl hdg kk
theorem ln_R_14 (S : CallFix p m c cc nL s args Ts own) (hK : pt_KK D (tysR ca) s) (hP : va_P D vwCl (wR ca ad σ) H) (hdg : decode cc pc = .ok (.arraylength, 1)) (kk : W p l e R s m args below meth c H locs cells slots Q (F0 m (pc + 1) ls (.int 40 :: rest))) : W p l e R s m args below meth c H locs cells slots Q (F0 m pc ls (.ref (ad 14) :: rest)) :=
  pt_len S hK hP 14 13 rfl rfl (v := 40) (by decide) hdg kk
theorem ld_R_14 (S : CallFix p m c cc nL s args Ts own) (hK : pt_KK D (tysR ca) s) (hP : va_P D vwCl (wR ca ad σ) H) (hi : pt_in i 40) (hdg : decode cc pc = .ok (.baload, 1)) (kk : W p l e R s m args below meth c H locs cells slots Q (F0 m (pc + 1) ls (.int (σ 14 i.toNatClampNeg) :: rest))) : W p l e R s m args below meth c H locs cells slots Q (F0 m pc ls (.int i :: .ref (ad 14) :: rest)) :=
  pt_zld S hK hP 14 13 rfl rfl hi hdg kk
theorem st_R_14 (S : CallFix p m c cc nL s args Ts own) (hK : pt_KK D (tysR ca) s) (hP : va_P D vwCl (wR ca ad σ) H) (hDa : ∀ σ, va_D A (wR ca ad σ)) (hS : va_S A H0 H locs) (hi : pt_in i 40) (e1 : σ1 = pt_put σ 14 i.toNatClampNeg (vp_nar .boolean v)) (hdg : decode cc pc = .ok (.bastore, 1)) (kk : ∀ (H1 : Heap) (locs1 : List Loc), va_P D vwCl (wR ca ad σ1) H1 → va_S A H0 H1 locs1 → W p l e R s m args below meth c H1 locs1 cells slots Q (F0 m (pc + 1) ls rest)) : W p l e R s m args below meth c H locs cells slots Q (F0 m pc ls (.int v :: .int i :: .ref (ad 14) :: rest)) := by
  subst e1
  exact pt_zst S hK hP (hDa σ) hS 14 13 rfl rfl hi rfl hdg kk
theorem ln_R_15 (S : CallFix p m c cc nL s args Ts own) (hK : pt_KK D (tysR ca) s) (hP : va_P D vwCl (wR ca ad σ) H) (hdg : decode cc pc = .ok (.arraylength, 1)) (kk : W p l e R s m args below meth c H locs cells slots Q (F0 m (pc + 1) ls (.int 40 :: rest))) : W p l e R s m args below meth c H locs cells slots Q (F0 m pc ls (.ref (ad 15) :: rest)) :=
  pt_len S hK hP 15 14 rfl rfl (v := 40) (by decide) hdg kk
theorem ld_R_15 (S : CallFix p m c cc nL s args Ts own) (hK : pt_KK D (tysR ca) s) (hP : va_P D vwCl (wR ca ad σ) H) (hi : pt_in i 40) (hdg : decode cc pc = .ok (.iaload, 1)) (kk : W p l e R s m args below meth c H locs cells slots Q (F0 m (pc + 1) ls (.int (σ 15 i.toNatClampNeg) :: rest))) : W p l e R s m args below meth c H locs cells slots Q (F0 m pc ls (.int i :: .ref (ad 15) :: rest)) :=
  pt_ild S hK hP 15 14 rfl rfl hi hdg kk
theorem st_R_15 (S : CallFix p m c cc nL s args Ts own) (hK : pt_KK D (tysR ca) s) (hP : va_P D vwCl (wR ca ad σ) H) (hDa : ∀ σ, va_D A (wR ca ad σ)) (hS : va_S A H0 H locs) (hi : pt_in i 40) (e1 : σ1 = pt_put σ 15 i.toNatClampNeg v) (hdg : decode cc pc = .ok (.iastore, 1)) (kk : ∀ (H1 : Heap) (locs1 : List Loc), va_P D vwCl (wR ca ad σ1) H1 → va_S A H0 H1 locs1 → W p l e R s m args below meth c H1 locs1 cells slots Q (F0 m (pc + 1) ls rest)) : W p l e R s m args below meth c H locs cells slots Q (F0 m pc ls (.int v :: .int i :: .ref (ad 15) :: rest)) := by
  subst e1
  exact pt_ist S hK hP (hDa σ) hS 15 14 rfl rfl hi rfl hdg kk
theorem ln_R_16 (S : CallFix p m c cc nL s args Ts own) (hK : pt_KK D (tysR ca) s) (hP : va_P D vwCl (wR ca ad σ) H) (hdg : decode cc pc = .ok (.arraylength, 1)) (kk : W p l e R s m args below meth c H locs cells slots Q (F0 m (pc + 1) ls (.int 40 :: rest))) : W p l e R s m args below meth c H locs cells slots Q (F0 m pc ls (.ref (ad 16) :: rest)) :=
  pt_len S hK hP 16 15 rfl rfl (v := 40) (by decide) hdg kk
theorem ld_R_16 (S : CallFix p m c cc nL s args Ts own) (hK : pt_KK D (tysR ca) s) (hP : va_P D vwCl (wR ca ad σ) H) (hi : pt_in i 40) (hdg : decode cc pc = .ok (.baload, 1)) (kk : W p l e R s m args below meth c H locs cells slots Q (F0 m (pc + 1) ls (.int (σ 16 i.toNatClampNeg) :: rest))) : W p l e R s m args below meth c H locs cells slots Q (F0 m pc ls (.int i :: .ref (ad 16) :: rest)) :=
  pt_zld S hK hP 16 15 rfl rfl hi hdg kk
theorem st_R_16 (S : CallFix p m c cc nL s args Ts own) (hK : pt_KK D (tysR ca) s) (hP : va_P D vwCl (wR ca ad σ) H) (hDa : ∀ σ, va_D A (wR ca ad σ)) (hS : va_S A H0 H locs) (hi : pt_in i 40) (e1 : σ1 = pt_put σ 16 i.toNatClampNeg (vp_nar .boolean v)) (hdg : decode cc pc = .ok (.bastore, 1)) (kk : ∀ (H1 : Heap) (locs1 : List Loc), va_P D vwCl (wR ca ad σ1) H1 → va_S A H0 H1 locs1 → W p l e R s m args below meth c H1 locs1 cells slots Q (F0 m (pc + 1) ls rest)) : W p l e R s m args below meth c H locs cells slots Q (F0 m pc ls (.int v :: .int i :: .ref (ad 16) :: rest)) := by
  subst e1
  exact pt_zst S hK hP (hDa σ) hS 16 15 rfl rfl hi rfl hdg kk
theorem ln_R_17 (S : CallFix p m c cc nL s args Ts own) (hK : pt_KK D (tysR ca) s) (hP : va_P D vwCl (wR ca ad σ) H) (hdg : decode cc pc = .ok (.arraylength, 1)) (kk : W p l e R s m args below meth c H locs cells slots Q (F0 m (pc + 1) ls (.int 6 :: rest))) : W p l e R s m args below meth c H locs cells slots Q (F0 m pc ls (.ref (ad 17) :: rest)) :=
  pt_len S hK hP 17 16 rfl rfl (v := 6) (by decide) hdg kk
theorem ld_R_17 (S : CallFix p m c cc nL s args Ts own) (hK : pt_KK D (tysR ca) s) (hP : va_P D vwCl (wR ca ad σ) H) (hi : pt_in i 6) (hdg : decode cc pc = .ok (.iaload, 1)) (kk : W p l e R s m args below meth c H locs cells slots Q (F0 m (pc + 1) ls (.int (σ 17 i.toNatClampNeg) :: rest))) : W p l e R s m args below meth c H locs cells slots Q (F0 m pc ls (.int i :: .ref (ad 17) :: rest)) :=
  pt_ild S hK hP 17 16 rfl rfl hi hdg kk
theorem st_R_17 (S : CallFix p m c cc nL s args Ts own) (hK : pt_KK D (tysR ca) s) (hP : va_P D vwCl (wR ca ad σ) H) (hDa : ∀ σ, va_D A (wR ca ad σ)) (hS : va_S A H0 H locs) (hi : pt_in i 6) (e1 : σ1 = pt_put σ 17 i.toNatClampNeg v) (hdg : decode cc pc = .ok (.iastore, 1)) (kk : ∀ (H1 : Heap) (locs1 : List Loc), va_P D vwCl (wR ca ad σ1) H1 → va_S A H0 H1 locs1 → W p l e R s m args below meth c H1 locs1 cells slots Q (F0 m (pc + 1) ls rest)) : W p l e R s m args below meth c H locs cells slots Q (F0 m pc ls (.int v :: .int i :: .ref (ad 17) :: rest)) := by
  subst e1
  exact pt_ist S hK hP (hDa σ) hS 17 16 rfl rfl hi rfl hdg kk
theorem pt_iret {w w' : va_W} {r : Int32} (S : CallFix p m c cc nL s args Ts own) (hr : meth.sig.returnType = some .int) (hlk : meth.locks = false) (hP : va_P D vwCl w H) (hS : va_S A s.heap H locs) (e1 : r = v) (e2 : w' = w) (hdg : decode cc pc = .ok (.ireturn, 1)) : W p l e R s m args below meth c H locs 0 0 (MQ below (pt_Q (some (.int r)) D w' A) args s 0 0 A) (F0 m pc ls [.int v]) := by
  subst e1 e2
  exact W.iret S.1 S.2.1 hr (fun t ht _ => ⟨rfl, by rw [ht]; exact hP, hS.F ht⟩) hS.2.2 hdg hlk
theorem pt_zret {w w' : va_W} {r : Int32} (S : CallFix p m c cc nL s args Ts own) (hr : meth.sig.returnType = some .boolean) (hlk : meth.locks = false) (hP : va_P D vwCl w H) (hS : va_S A s.heap H locs) (hz : v = 0 ∨ v = 1) (e1 : r = v) (e2 : w' = w) (hdg : decode cc pc = .ok (.ireturn, 1)) : W p l e R s m args below meth c H locs 0 0 (MQ below (pt_Q (some (.int r)) D w' A) args s 0 0 A) (F0 m pc ls [.int v]) := by
  subst e1 e2
  exact W.zret S.1 S.2.1 hr (by rcases hz with rfl | rfl <;> rfl) (fun t ht _ => ⟨rfl, by rw [ht]; exact hP, hS.F ht⟩) hS.2.2 hdg hlk
theorem pt_vret {w w' : va_W} (S : CallFix p m c cc nL s args Ts own) (hr : meth.sig.returnType = none) (hlk : meth.locks = false) (hP : va_P D vwCl w H) (hS : va_S A s.heap H locs) (e2 : w' = w) (hdg : decode cc pc = .ok (.return_, 1)) : W p l e R s m args below meth c H locs 0 0 (MQ below (pt_Q none D w' A) args s 0 0 A) (F0 m pc ls []) := by
  subst e2
  exact W.vret S.1 S.2.1 hr (fun t ht _ => ⟨rfl, by rw [ht]; exact hP, hS.F ht⟩) hS.2.2 hdg hlk
theorem pt_aret {w w' : va_W} {v0 v1 : Value} (S : CallFix p m c cc nL s args Ts own) (hr : meth.sig.returnType = some (.object "PackThreads$Worker")) (hlk : meth.locks = false) (hP : va_P D vwCl w H) (hS : va_S A s.heap H locs) (hv : v0 = .null ∨ ∃ a, v0 = .ref a) (e1 : v1 = v0) (e2 : w' = w) (hdg : decode cc pc = .ok (.areturn, 1)) : W p l e R s m args below meth c H locs 0 0 (MQ below (pt_Q (some v1) D w' A) args s 0 0 A) (F0 m pc ls [v0]) := by
  subst e1 e2
  exact W.aret S.1 S.2.1 hr (Or.inl ⟨_, rfl⟩) hv (fun t ht _ => ⟨rfl, by rw [ht]; exact hP, hS.F ht⟩) hS.2.2 hdg hlk
end PTF
end
